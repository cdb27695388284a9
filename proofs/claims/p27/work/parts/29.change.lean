/-! one change of a row; the class's changes -/
section
set_option maxRecDepth 100000
section CO
variable {a b : Nat → Int32}
theorem zG_ext (hg : zG a) (h : ∀ i, i < 5 → b i = a i) (hs : ∀ i, i < gN a 2 → (b (5 + i) = nI (gN b (5 + i)) ∧ gN b (5 + i) < 6) ∧ (b (17 + i) = nI (gN b (17 + i)) ∧ gN b (17 + i) ≤ 16) ∧ (b (29 + i) = 0 ∨ b (29 + i) = 1))
    (ho : ∀ i, i < gN a 3 → (b (41 + i) = nI (gN b (41 + i)) ∧ gN b (41 + i) ≤ 9999) ∧ (b (81 + i) = -6 ∨ ∃ j, j < gN a 2 ∧ b (81 + i) = nI j)) : zG b := by
  have e : ∀ i, i < 5 → gN b i = gN a i := fun i hi => by unfold gN; rw [h i hi]
  obtain ⟨g0, g1, g2, g3, g4, -, -⟩ := hg
  unfold zG
  rw [h 0 (by decide), h 1 (by decide), h 2 (by decide), h 3 (by decide), h 4 (by decide), e 0 (by decide), e 1 (by decide), e 2 (by decide), e 3 (by decide), e 4 (by decide)]
  exact ⟨g0, g1, g2, g3, g4, hs, ho⟩
theorem zG_rack (hg : zG a) {s r : Nat} (hs : s < 12) (hr : r < 6) : zG (upd a (5 + s) (nI r)) := by
  have b2 := hg.2.2.1.2
  have b3 := hg.2.2.2.1.2
  refine zG_ext hg (fun i hi => upd_n (by omega)) (fun i hi => ?_) (fun i hi => ?_)
  · have := hg.2.2.2.2.2.1 i hi
    rw [gN_u (show 17 + i ≠ 5 + s by omega), upd_n (show 17 + i ≠ 5 + s by omega), upd_n (show 29 + i ≠ 5 + s by omega)]
    refine ⟨?_, this.2⟩
    by_cases h : i = s
    · subst h; unfold gN; rw [upd_s, nI_clamp (by omega)]; exact ⟨rfl, hr⟩
    · rw [gN_u (by omega), upd_n (by omega)]; exact this.1
  · rw [gN_u (by omega), upd_n (by omega), upd_n (by omega)]; exact hg.2.2.2.2.2.2 i hi
theorem zG_weigh (hg : zG a) {s r : Nat} (hs : s < 12) (hr : r ≤ 16) : zG (upd a (17 + s) (nI r)) := by
  have b2 := hg.2.2.1.2
  have b3 := hg.2.2.2.1.2
  refine zG_ext hg (fun i hi => upd_n (by omega)) (fun i hi => ?_) (fun i hi => ?_)
  · have := hg.2.2.2.2.2.1 i hi
    rw [gN_u (show 5 + i ≠ 17 + s by omega), upd_n (show 5 + i ≠ 17 + s by omega), upd_n (show 29 + i ≠ 17 + s by omega)]
    refine ⟨this.1, ?_, this.2.2⟩
    by_cases h : i = s
    · subst h; unfold gN; rw [upd_s, nI_clamp (by omega)]; exact ⟨rfl, hr⟩
    · rw [gN_u (by omega), upd_n (by omega)]; exact this.2.1
  · rw [gN_u (by omega), upd_n (by omega), upd_n (by omega)]; exact hg.2.2.2.2.2.2 i hi
theorem zG_down (hg : zG a) {s : Nat} {d : Int32} (hs : s < 12) (hd : d = 0 ∨ d = 1) : zG (upd a (29 + s) d) := by
  have b2 := hg.2.2.1.2
  have b3 := hg.2.2.2.1.2
  refine zG_ext hg (fun i hi => upd_n (by omega)) (fun i hi => ?_) (fun i hi => ?_)
  · have := hg.2.2.2.2.2.1 i hi
    rw [gN_u (show 5 + i ≠ 29 + s by omega), upd_n (show 5 + i ≠ 29 + s by omega), gN_u (show 17 + i ≠ 29 + s by omega), upd_n (show 17 + i ≠ 29 + s by omega)]
    refine ⟨this.1, this.2.1, ?_⟩
    by_cases h : i = s
    · subst h; rw [upd_s]; exact hd
    · rw [upd_n (by omega)]; exact this.2.2
  · rw [gN_u (by omega), upd_n (by omega), upd_n (by omega)]; exact hg.2.2.2.2.2.2 i hi
theorem zG_pin (hg : zG a) {p : Nat} {v : Int32} (hp : p < 40) (hv : v = -6 ∨ ∃ j, j < gN a 2 ∧ v = nI j) : zG (upd a (81 + p) v) := by
  have b2 := hg.2.2.1.2
  have b3 := hg.2.2.2.1.2
  refine zG_ext hg (fun i hi => upd_n (by omega)) (fun i hi => ?_) (fun i hi => ?_)
  · rw [gN_u (by omega), upd_n (by omega), gN_u (by omega), upd_n (by omega), upd_n (by omega)]; exact hg.2.2.2.2.2.1 i hi
  · have := hg.2.2.2.2.2.2 i hi
    rw [gN_u (by omega), upd_n (show 41 + i ≠ 81 + p by omega)]
    refine ⟨this.1, ?_⟩
    by_cases h : i = p
    · subst h; rw [upd_s]; exact hv
    · rw [upd_n (by omega)]; exact this.2
theorem zG_cop (hg : zG a) {c : Nat} (h1 : 1 ≤ c) (h3 : c ≤ 3) : zG (upd a 0 (nI c)) := by
  have b2 := hg.2.2.1.2
  have b3 := hg.2.2.2.1.2
  obtain ⟨g0, g1, g2, g3, g4, g5, g6⟩ := hg
  have e0 : gN (upd a 0 (nI c)) 0 = c := by unfold gN; rw [upd_s]; exact nI_clamp (by omega)
  unfold zG
  rw [e0, upd_s, gN_u (i := 0) (j := 1) (by decide), gN_u (i := 0) (j := 2) (by decide), gN_u (i := 0) (j := 3) (by decide), gN_u (i := 0) (j := 4) (by decide), upd_n (j := 1) (by decide), upd_n (j := 2) (by decide), upd_n (j := 3) (by decide), upd_n (j := 4) (by decide)]
  refine ⟨⟨rfl, h1, h3⟩, g1, g2, g3, g4, fun i hi => ?_, fun i hi => ?_⟩
  · rw [gN_u (by omega), upd_n (by omega), gN_u (by omega), upd_n (by omega), upd_n (by omega)]; exact g5 i hi
  · rw [gN_u (by omega), upd_n (by omega), upd_n (by omega)]; exact g6 i hi
theorem zG_salt (hg : zG a) {c : Nat} (h3 : c ≤ 999) : zG (upd a 1 (nI c)) := by
  have b2 := hg.2.2.1.2
  have b3 := hg.2.2.2.1.2
  obtain ⟨g0, g1, g2, g3, g4, g5, g6⟩ := hg
  have e0 : gN (upd a 1 (nI c)) 1 = c := by unfold gN; rw [upd_s]; exact nI_clamp (by omega)
  unfold zG
  rw [e0, upd_s, gN_u (i := 1) (j := 0) (by decide), gN_u (i := 1) (j := 2) (by decide), gN_u (i := 1) (j := 3) (by decide), gN_u (i := 1) (j := 4) (by decide), upd_n (j := 0) (by decide), upd_n (j := 2) (by decide), upd_n (j := 3) (by decide), upd_n (j := 4) (by decide)]
  refine ⟨g0, ⟨rfl, h3⟩, g2, g3, g4, fun i hi => ?_, fun i hi => ?_⟩
  · rw [gN_u (by omega), upd_n (by omega), gN_u (by omega), upd_n (by omega), upd_n (by omega)]; exact g5 i hi
  · rw [gN_u (by omega), upd_n (by omega), upd_n (by omega)]; exact g6 i hi
def bldA (a : Nat → Int32) (r w : Int32) : Nat → Int32 := upd (upd (upd (upd a (5 + gN a 2) r) (17 + gN a 2) w) (29 + gN a 2) 0) 2 (nI (gN a 2 + 1))
theorem zG_bld (hg : zG a) {r w : Nat} (h12 : gN a 2 < 12) (hr : r < 6) (hw : w ≤ 16) : zG (bldA a (nI r) (nI w)) := by
  have b3 := hg.2.2.2.1.2
  obtain ⟨g0, g1, g2, g3, g4, g5, g6⟩ := hg
  have U : ∀ i, i ≠ 2 → i ≠ 5 + gN a 2 → i ≠ 17 + gN a 2 → i ≠ 29 + gN a 2 → bldA a (nI r) (nI w) i = a i := fun i h1 h2 h3 h4 => by unfold bldA; rw [upd_n h1, upd_n h4, upd_n h3, upd_n h2]
  have U2 : bldA a (nI r) (nI w) 2 = nI (gN a 2 + 1) := by unfold bldA; rw [upd_s]
  have U5 : bldA a (nI r) (nI w) (5 + gN a 2) = nI r := by unfold bldA; rw [upd_n (by omega), upd_n (by omega), upd_n (by omega), upd_s]
  have U17 : bldA a (nI r) (nI w) (17 + gN a 2) = nI w := by unfold bldA; rw [upd_n (by omega), upd_n (by omega), upd_s]
  have U29 : bldA a (nI r) (nI w) (29 + gN a 2) = 0 := by unfold bldA; rw [upd_n (by omega), upd_s]
  generalize bldA a (nI r) (nI w) = b at U U2 U5 U17 U29 ⊢
  have e2 : gN b 2 = gN a 2 + 1 := by unfold gN; rw [U2]; exact nI_clamp (by show gN a 2 + 1 < 2 ^ 31; omega)
  have eg : ∀ i, b i = a i → gN b i = gN a i := fun i h => by unfold gN; rw [h]
  have u0 := U 0 (by omega) (by omega) (by omega) (by omega)
  have u1 := U 1 (by omega) (by omega) (by omega) (by omega)
  have u3 := U 3 (by omega) (by omega) (by omega) (by omega)
  have u4 := U 4 (by omega) (by omega) (by omega) (by omega)
  unfold zG
  rw [e2, U2, eg 0 u0, eg 1 u1, eg 3 u3, eg 4 u4, u0, u1, u3, u4]
  refine ⟨g0, g1, ⟨rfl, by omega⟩, g3, g4, fun i hi => ?_, fun i hi => ?_⟩
  · by_cases h : i = gN a 2
    · subst h
      have x5 : gN b (5 + gN a 2) = r := by unfold gN at *; rw [U5]; exact nI_clamp (by omega)
      have x17 : gN b (17 + gN a 2) = w := by unfold gN at *; rw [U17]; exact nI_clamp (by omega)
      rw [x5, x17, U5, U17, U29]
      exact ⟨⟨rfl, hr⟩, ⟨rfl, hw⟩, Or.inl rfl⟩
    · have y5 := U (5 + i) (by omega) (by omega) (by omega) (by omega)
      have y17 := U (17 + i) (by omega) (by omega) (by omega) (by omega)
      have y29 := U (29 + i) (by omega) (by omega) (by omega) (by omega)
      rw [eg _ y5, eg _ y17, y5, y17, y29]
      exact g5 i (by omega)
  · have y41 := U (41 + i) (by omega) (by omega) (by omega) (by omega)
    have y81 := U (81 + i) (by omega) (by omega) (by omega) (by omega)
    rw [eg _ y41, y41, y81]
    refine ⟨(g6 i hi).1, ?_⟩
    rcases (g6 i hi).2 with h | ⟨j, hj, h⟩
    · exact Or.inl h
    · exact Or.inr ⟨j, by omega, h⟩
end CO
section CX
variable {a : Nat → Int32} {f1 f2 f3 f4 f5 f6 f7 f8 : Nat → Int32}
theorem zSa.w {b : Nat → Int32} {g1 g2 g3 g5 : Nat → Int32} (hg : zG a) (h : zSa a f1 f2 f3 f4 f5 f6 f7 f8) (e2 : b 2 = a 2) (e3 : b 3 = a 3) (e4 : b 4 = a 4) (ho : ∀ i, i < 40 → b (41 + i) = a (41 + i)) (hm : ∀ i, 121 ≤ i → b i = a i)
    (q1 : ∀ i, i < gN a 2 → g1 i = b (5 + i)) (q2 : ∀ i, i < gN a 2 → g2 i = b (17 + i)) (q3 : ∀ i, i < gN a 2 → g3 i = b (29 + i)) (q5 : ∀ i, i < gN a 3 → g5 i = b (81 + i)) : zSa b g1 g2 g3 f4 g5 f6 f7 f8 := by
  have x2 : gN b 2 = gN a 2 := by unfold gN; rw [e2]
  have x3 : gN b 3 = gN a 3 := by unfold gN; rw [e3]
  have x4 : gN b 4 = gN a 4 := by unfold gN; rw [e4]
  have b3 := hg.2.2.2.1.2
  obtain ⟨p1, p2, p3, p4, p5, p6, p7, p8⟩ := h
  unfold zSa
  rw [x2, x3, x4]
  exact ⟨q1, q2, q3, fun i hi => by rw [ho i (by omega)]; exact p4 i hi, q5, fun i hi => by rw [hm _ (by omega)]; exact p6 i hi, fun i hi => by rw [hm _ (by omega)]; exact p7 i hi, fun i hi => by rw [hm _ (by omega)]; exact p8 i hi⟩
theorem up_at {f g : Nat → Int32} {o s i : Nat} {v : Int32} (h : f i = g (o + i)) : upd f s v i = upd g (o + s) v (o + i) := by
  by_cases e : i = s
  · subst e; rw [upd_s, upd_s]
  · rw [upd_n e, upd_n (by omega)]; exact h
end CX
section ZC
variable {h : List zC} {z : Nat × (Nat × (Nat → Int32))} {k : Nat} {a : Nat → Int32} {Q : Option Value → zX → Prop}
theorem zSt.rack (hS : zSt h k a) (hg : zG a) {s : Nat} {v : Int32} (hs : s < 12) : ∃ f, h[k + 1]? = some (zar .int 12 f) ∧ zSt (h.set (k + 1) (zar .int 12 (upd f s v))) k (upd a (5 + s) v) := by
  obtain ⟨f1, f2, f3, f4, f5, f6, f7, f8, hX, hA⟩ := hS.x
  have b2 := hg.2.2.1.2
  have b3 := hg.2.2.2.1.2
  refine ⟨f1, hX.2.1, zSx.st (f1 := upd f1 s v) (f2 := f2) (f3 := f3) (f4 := f4) (f5 := f5) (f6 := f6) (f7 := f7) (f8 := f8) ?_ (hA.w hg (upd_n (by omega)) (upd_n (by omega)) (upd_n (by omega)) (fun i hi => upd_n (by omega)) (fun i hi => upd_n (by omega)) ?_ ?_ ?_ ?_)⟩
  · rw [upd_n (show 0 ≠ 5 + s by omega), upd_n (show 1 ≠ 5 + s by omega), upd_n (show 2 ≠ 5 + s by omega), upd_n (show 3 ≠ 5 + s by omega), upd_n (show 4 ≠ 5 + s by omega)]
    exact hX.a1 _
  · intro i hi; exact up_at (hA.1 i hi)
  · intro i hi; rw [upd_n (by omega)]; exact hA.2.1 i hi
  · intro i hi; rw [upd_n (by omega)]; exact hA.2.2.1 i hi
  · intro i hi; rw [upd_n (by omega)]; exact hA.2.2.2.2.1 i hi
theorem zSt.weigh (hS : zSt h k a) (hg : zG a) {s : Nat} {v : Int32} (hs : s < 12) : ∃ f, h[k + 2]? = some (zar .int 12 f) ∧ (s < gN a 2 → f s = a (17 + s)) ∧ zSt (h.set (k + 2) (zar .int 12 (upd f s v))) k (upd a (17 + s) v) := by
  obtain ⟨f1, f2, f3, f4, f5, f6, f7, f8, hX, hA⟩ := hS.x
  have b2 := hg.2.2.1.2
  have b3 := hg.2.2.2.1.2
  refine ⟨f2, hX.2.2.1, hA.2.1 s, zSx.st (f1 := f1) (f2 := upd f2 s v) (f3 := f3) (f4 := f4) (f5 := f5) (f6 := f6) (f7 := f7) (f8 := f8) ?_ (hA.w hg (upd_n (by omega)) (upd_n (by omega)) (upd_n (by omega)) (fun i hi => upd_n (by omega)) (fun i hi => upd_n (by omega)) ?_ ?_ ?_ ?_)⟩
  · rw [upd_n (show 0 ≠ 17 + s by omega), upd_n (show 1 ≠ 17 + s by omega), upd_n (show 2 ≠ 17 + s by omega), upd_n (show 3 ≠ 17 + s by omega), upd_n (show 4 ≠ 17 + s by omega)]
    exact hX.a2 _
  · intro i hi; rw [upd_n (by omega)]; exact hA.1 i hi
  · intro i hi; exact up_at (hA.2.1 i hi)
  · intro i hi; rw [upd_n (by omega)]; exact hA.2.2.1 i hi
  · intro i hi; rw [upd_n (by omega)]; exact hA.2.2.2.2.1 i hi
theorem zSt.down (hS : zSt h k a) (hg : zG a) {s : Nat} {v : Int32} (hs : s < 12) : ∃ f, h[k + 3]? = some (zar .boolean 12 f) ∧ (s < gN a 2 → f s = a (29 + s)) ∧ zSt (h.set (k + 3) (zar .boolean 12 (upd f s v))) k (upd a (29 + s) v) := by
  obtain ⟨f1, f2, f3, f4, f5, f6, f7, f8, hX, hA⟩ := hS.x
  have b2 := hg.2.2.1.2
  have b3 := hg.2.2.2.1.2
  refine ⟨f3, hX.2.2.2.1, hA.2.2.1 s, zSx.st (f1 := f1) (f2 := f2) (f3 := upd f3 s v) (f4 := f4) (f5 := f5) (f6 := f6) (f7 := f7) (f8 := f8) ?_ (hA.w hg (upd_n (by omega)) (upd_n (by omega)) (upd_n (by omega)) (fun i hi => upd_n (by omega)) (fun i hi => upd_n (by omega)) ?_ ?_ ?_ ?_)⟩
  · rw [upd_n (show 0 ≠ 29 + s by omega), upd_n (show 1 ≠ 29 + s by omega), upd_n (show 2 ≠ 29 + s by omega), upd_n (show 3 ≠ 29 + s by omega), upd_n (show 4 ≠ 29 + s by omega)]
    exact hX.a3 _
  · intro i hi; rw [upd_n (by omega)]; exact hA.1 i hi
  · intro i hi; rw [upd_n (by omega)]; exact hA.2.1 i hi
  · intro i hi; exact up_at (hA.2.2.1 i hi)
  · intro i hi; rw [upd_n (by omega)]; exact hA.2.2.2.2.1 i hi
theorem zSt.pin (hS : zSt h k a) (hg : zG a) {s : Nat} {v : Int32} (hs : s < 40) : ∃ f, h[k + 5]? = some (zar .int 40 f) ∧ zSt (h.set (k + 5) (zar .int 40 (upd f s v))) k (upd a (81 + s) v) := by
  obtain ⟨f1, f2, f3, f4, f5, f6, f7, f8, hX, hA⟩ := hS.x
  have b2 := hg.2.2.1.2
  have b3 := hg.2.2.2.1.2
  refine ⟨f5, hX.2.2.2.2.2.1, zSx.st (f1 := f1) (f2 := f2) (f3 := f3) (f4 := f4) (f5 := upd f5 s v) (f6 := f6) (f7 := f7) (f8 := f8) ?_ (hA.w hg (upd_n (by omega)) (upd_n (by omega)) (upd_n (by omega)) (fun i hi => upd_n (by omega)) (fun i hi => upd_n (by omega)) ?_ ?_ ?_ ?_)⟩
  · rw [upd_n (show 0 ≠ 81 + s by omega), upd_n (show 1 ≠ 81 + s by omega), upd_n (show 2 ≠ 81 + s by omega), upd_n (show 3 ≠ 81 + s by omega), upd_n (show 4 ≠ 81 + s by omega)]
    exact hX.a5 _
  · intro i hi; rw [upd_n (by omega)]; exact hA.1 i hi
  · intro i hi; rw [upd_n (by omega)]; exact hA.2.1 i hi
  · intro i hi; rw [upd_n (by omega)]; exact hA.2.2.1 i hi
  · intro i hi; exact up_at (hA.2.2.2.2.1 i hi)
theorem zSt.cop (hS : zSt h k a) (hg : zG a) {v : Int32} : zSt (h.set k (zob 3 [.int v, .int (a 1), .int (a 2), .ref (k + 1), .ref (k + 2), .ref (k + 3), .int (a 3), .ref (k + 4), .ref (k + 5), .int (a 4), .ref (k + 6), .ref (k + 7), .ref (k + 8)])) k (upd a 0 v) := by
  obtain ⟨f1, f2, f3, f4, f5, f6, f7, f8, hX, hA⟩ := hS.x
  refine zSx.st (f1 := f1) (f2 := f2) (f3 := f3) (f4 := f4) (f5 := f5) (f6 := f6) (f7 := f7) (f8 := f8) ?_ (hA.w hg (upd_n (by omega)) (upd_n (by omega)) (upd_n (by omega)) (fun i hi => upd_n (by omega)) (fun i hi => upd_n (by omega)) ?_ ?_ ?_ ?_)
  · rw [upd_s, upd_n (show 1 ≠ 0 by omega), upd_n (show 2 ≠ 0 by omega), upd_n (show 3 ≠ 0 by omega), upd_n (show 4 ≠ 0 by omega)]
    exact hX.obj _ _ _ _ _
  · intro i hi; rw [upd_n (by omega)]; exact hA.1 i hi
  · intro i hi; rw [upd_n (by omega)]; exact hA.2.1 i hi
  · intro i hi; rw [upd_n (by omega)]; exact hA.2.2.1 i hi
  · intro i hi; rw [upd_n (by omega)]; exact hA.2.2.2.2.1 i hi
theorem zSt.salt (hS : zSt h k a) (hg : zG a) {v : Int32} : zSt (h.set k (zob 3 [.int (a 0), .int v, .int (a 2), .ref (k + 1), .ref (k + 2), .ref (k + 3), .int (a 3), .ref (k + 4), .ref (k + 5), .int (a 4), .ref (k + 6), .ref (k + 7), .ref (k + 8)])) k (upd a 1 v) := by
  obtain ⟨f1, f2, f3, f4, f5, f6, f7, f8, hX, hA⟩ := hS.x
  refine zSx.st (f1 := f1) (f2 := f2) (f3 := f3) (f4 := f4) (f5 := f5) (f6 := f6) (f7 := f7) (f8 := f8) ?_ (hA.w hg (upd_n (by omega)) (upd_n (by omega)) (upd_n (by omega)) (fun i hi => upd_n (by omega)) (fun i hi => upd_n (by omega)) ?_ ?_ ?_ ?_)
  · rw [upd_s, upd_n (show 0 ≠ 1 by omega), upd_n (show 2 ≠ 1 by omega), upd_n (show 3 ≠ 1 by omega), upd_n (show 4 ≠ 1 by omega)]
    exact hX.obj _ _ _ _ _
  · intro i hi; rw [upd_n (by omega)]; exact hA.1 i hi
  · intro i hi; rw [upd_n (by omega)]; exact hA.2.1 i hi
  · intro i hi; rw [upd_n (by omega)]; exact hA.2.2.1 i hi
  · intro i hi; rw [upd_n (by omega)]; exact hA.2.2.2.2.1 i hi
/-- the new server's numbers are in place, the count goes up -/
theorem zSt.bld (hS : zSt h k a) (hg : zG a) (h12 : gN a 2 < 12) {r w : Int32} : ∃ f1 f2 f3, h[k + 1]? = some (zar .int 12 f1) ∧ h[k + 2]? = some (zar .int 12 f2) ∧ h[k + 3]? = some (zar .boolean 12 f3) ∧
    zSt ((((h.set (k + 1) (zar .int 12 (upd f1 (gN a 2) r))).set (k + 2) (zar .int 12 (upd f2 (gN a 2) w))).set (k + 3) (zar .boolean 12 (upd f3 (gN a 2) 0))).set k (zob 3 [.int (a 0), .int (a 1), .int (nI (gN a 2 + 1)), .ref (k + 1), .ref (k + 2), .ref (k + 3), .int (a 3), .ref (k + 4), .ref (k + 5), .int (a 4), .ref (k + 6), .ref (k + 7), .ref (k + 8)])) k (bldA a r w) := by
  obtain ⟨f1, f2, f3, f4, f5, f6, f7, f8, hX, hA⟩ := hS.x
  have b3 := hg.2.2.2.1.2
  refine ⟨f1, f2, f3, hX.2.1, hX.2.2.1, hX.2.2.2.1, ?_⟩
  have X4 := (((hX.a1 (upd f1 (gN a 2) r)).a2 (upd f2 (gN a 2) w)).a3 (upd f3 (gN a 2) 0)).obj (a 0) (a 1) (nI (gN a 2 + 1)) (a 3) (a 4)
  have U : ∀ i, i ≠ 2 → i ≠ 5 + gN a 2 → i ≠ 17 + gN a 2 → i ≠ 29 + gN a 2 → bldA a r w i = a i := fun i h1 h2 h3 h4 => by unfold bldA; rw [upd_n h1, upd_n h4, upd_n h3, upd_n h2]
  have U2 : bldA a r w 2 = nI (gN a 2 + 1) := by unfold bldA; rw [upd_s]
  have U5 : bldA a r w (5 + gN a 2) = r := by unfold bldA; rw [upd_n (by omega), upd_n (by omega), upd_n (by omega), upd_s]
  have U17 : bldA a r w (17 + gN a 2) = w := by unfold bldA; rw [upd_n (by omega), upd_n (by omega), upd_s]
  have U29 : bldA a r w (29 + gN a 2) = 0 := by unfold bldA; rw [upd_n (by omega), upd_s]
  generalize bldA a r w = b at U U2 U5 U17 U29 ⊢
  have e2 : gN b 2 = gN a 2 + 1 := by unfold gN; rw [U2]; exact nI_clamp (by show gN a 2 + 1 < 2 ^ 31; omega)
  have eg : ∀ i, b i = a i → gN b i = gN a i := fun i h => by unfold gN; rw [h]
  have u0 := U 0 (by omega) (by omega) (by omega) (by omega)
  have u1 := U 1 (by omega) (by omega) (by omega) (by omega)
  have u3 := U 3 (by omega) (by omega) (by omega) (by omega)
  have u4 := U 4 (by omega) (by omega) (by omega) (by omega)
  obtain ⟨q1, q2, q3, q4, q5, q6, q7, q8⟩ := hA
  refine zSx.st (f1 := upd f1 (gN a 2) r) (f2 := upd f2 (gN a 2) w) (f3 := upd f3 (gN a 2) 0) (f4 := f4) (f5 := f5) (f6 := f6) (f7 := f7) (f8 := f8) (by rw [u0, u1, U2, u3, u4]; exact X4) ?_
  unfold zSa
  rw [e2, eg 3 u3, eg 4 u4]
  refine ⟨fun i hi => ?_, fun i hi => ?_, fun i hi => ?_, fun i hi => ?_, fun i hi => ?_, fun i hi => ?_, fun i hi => ?_, fun i hi => ?_⟩
  · by_cases h : i = gN a 2
    · subst h; rw [upd_s, U5]
    · rw [upd_n h, U _ (by omega) (by omega) (by omega) (by omega)]; exact q1 i (by omega)
  · by_cases h : i = gN a 2
    · subst h; rw [upd_s, U17]
    · rw [upd_n h, U _ (by omega) (by omega) (by omega) (by omega)]; exact q2 i (by omega)
  · by_cases h : i = gN a 2
    · subst h; rw [upd_s, U29]
    · rw [upd_n h, U _ (by omega) (by omega) (by omega) (by omega)]; exact q3 i (by omega)
  · rw [U _ (by omega) (by omega) (by omega) (by omega)]; exact q4 i hi
  · rw [U _ (by omega) (by omega) (by omega) (by omega)]; exact q5 i hi
  · rw [U _ (by omega) (by omega) (by omega) (by omega)]; exact q6 i hi
  · rw [U _ (by omega) (by omega) (by omega) (by omega)]; exact q7 i hi
  · rw [U _ (by omega) (by omega) (by omega) (by omega)]; exact q8 i hi
end ZC
end
