/-! the history; a change as the callers see it -/
section
set_option maxRecDepth 100000
def zTy (h : List zC) (k : Nat) : Prop := ∃ v0 v1 v2 v3 v4 f1 f2 f3 f4 f5 f6 f7 f8, zSx h k v0 v1 v2 v3 v4 f1 f2 f3 f4 f5 f6 f7 f8
theorem zSt.ty {h : List zC} {k : Nat} {a : Nat → Int32} (hS : zSt h k a) : zTy h k := by
  obtain ⟨f1, f2, f3, f4, f5, f6, f7, f8, hX, -⟩ := hS.x
  exact ⟨_, _, _, _, _, _, _, _, _, _, _, _, _, hX⟩
theorem zTy.fr {h h' : List zC} {k : Nat} (hT : zTy h k) (hf : ∀ j, k ≤ j → j ≤ k + 8 → h'[j]? = h[j]?) : zTy h' k := by
  obtain ⟨v0, v1, v2, v3, v4, f1, f2, f3, f4, f5, f6, f7, f8, h0, h1, h2, h3, h4, h5, h6, h7, h8⟩ := hT
  exact ⟨v0, v1, v2, v3, v4, f1, f2, f3, f4, f5, f6, f7, f8, (hf _ (by omega) (by omega)).trans h0, (hf _ (by omega) (by omega)).trans h1, (hf _ (by omega) (by omega)).trans h2, (hf _ (by omega) (by omega)).trans h3, (hf _ (by omega) (by omega)).trans h4, (hf _ (by omega) (by omega)).trans h5, (hf _ (by omega) (by omega)).trans h6, (hf _ (by omega) (by omega)).trans h7, (hf _ (by omega) (by omega)).trans h8⟩
theorem rem7 : ∀ x, x < 14 → nI x - nI x / 7 * 7 = nI (x % 7) := by decide +kernel
def zHo (h : List zC) (o n : Nat) : Prop := h[10]? = some (zob 0 [.ref 11, .int (nI o), .int (nI n)]) ∧ h[11]? = some (zrr 7 (fun i => if i < 7 then some (12 + 9 * i) else none)) ∧ o < 7 ∧ n ≤ 6 ∧ ∀ i, i < 7 → zTy h (12 + 9 * i)
def zHs (h : List zC) (o n : Nat) (H : Nat → Nat → Int32) : Prop := ∀ j, j < n → zSt h (12 + 9 * ((o + j) % 7)) (H j) ∧ zG (H j)
def zHi (h : List zC) (n : Nat) (H : Nat → Nat → Int32) : Prop := ∃ o, zHo h o n ∧ zHs h o n H
/-- and the draft is in place -/
def zHd (h : List zC) (n : Nat) (H : Nat → Nat → Int32) (a : Nat → Int32) : Prop := ∃ o, zHo h o n ∧ zHs h o n H ∧ zSt h (12 + 9 * ((o + n) % 7)) a
def pshN (n : Nat) : Nat := if n < 6 then n + 1 else 6
def pshH (n : Nat) (H : Nat → Nat → Int32) (a : Nat → Int32) (j : Nat) : Nat → Int32 := if n < 6 then (if j = n then a else H j) else (if j = 5 then a else H (j + 1))
def recN (r : Int32) (n : Nat) : Nat := if r < 0 then n else pshN n
def recH (r : Int32) (n : Nat) (H : Nat → Nat → Int32) (a : Nat → Int32) : Nat → Nat → Int32 := if r < 0 then H else pshH n H a
def zSl (h : List zC) (sv : Nat → Int32) (S : Nat → Nat → Int32) : Prop := h[75]? = some (zrr 2 (fun i => if i < 2 then some (90 + 9 * i) else none)) ∧ h[76]? = some (zar .boolean 2 sv) ∧
  ∀ i, i < 2 → zTy h (90 + 9 * i) ∧ (sv i = 0 ∨ sv i = 1) ∧ (sv i = 1 → zSt h (90 + 9 * i) (S i) ∧ zG (S i))
def zPd (h : List zC) (l : Nat) (f : Nat → Int32) : Prop := (∃ (at_ : Nat) (kd fi se : Int32), h[80]? = some (zob 2 [.ref 81, .int (nI l), .int (nI at_), .int kd, .int fi, .int se])) ∧ h[81]? = some (zar .char 60 f) ∧ l ≤ 60 ∧ ∀ i, i < l → ∃ c, 33 ≤ c ∧ c < 127 ∧ f i = nI c
theorem zHi.fr {h h' : List zC} {n : Nat} {H : Nat → Nat → Int32} (hH : zHi h n H) (hf : ∀ j, 10 ≤ j → j ≤ 74 → h'[j]? = h[j]?) : zHi h' n H := by
  obtain ⟨o, ⟨h0, h1, h2, h3, h4⟩, h5⟩ := hH
  exact ⟨o, ⟨(hf _ (by omega) (by omega)).trans h0, (hf _ (by omega) (by omega)).trans h1, h2, h3, fun i hi => (h4 i hi).fr (fun j a b => hf j (by omega) (by omega))⟩, fun j hj => ⟨(h5 j hj).1.fr (fun q a b => hf q (by omega) (by omega)), (h5 j hj).2⟩⟩
theorem zHd.fr {h h' : List zC} {n : Nat} {H : Nat → Nat → Int32} {a : Nat → Int32} (hH : zHd h n H a) (hf : ∀ j, 10 ≤ j → j ≤ 74 → h'[j]? = h[j]?) : zHd h' n H a := by
  obtain ⟨o, ⟨h0, h1, h2, h3, h4⟩, h5, h6⟩ := hH
  exact ⟨o, ⟨(hf _ (by omega) (by omega)).trans h0, (hf _ (by omega) (by omega)).trans h1, h2, h3, fun i hi => (h4 i hi).fr (fun j a b => hf j (by omega) (by omega))⟩, fun j hj => ⟨(h5 j hj).1.fr (fun q a b => hf q (by omega) (by omega)), (h5 j hj).2⟩, h6.fr (fun q a b => hf q (by omega) (by omega))⟩
theorem zHd.hi {h : List zC} {n : Nat} {H : Nat → Nat → Int32} {a : Nat → Int32} (hH : zHd h n H a) : zHi h n H := by
  obtain ⟨o, h0, h5, -⟩ := hH
  exact ⟨o, h0, h5⟩
theorem zSl.fr {h h' : List zC} {sv : Nat → Int32} {S : Nat → Nat → Int32} (hH : zSl h sv S) (hf : ∀ j, (75 ≤ j ∧ j ≤ 76) ∨ 90 ≤ j ∧ j ≤ 107 → h'[j]? = h[j]?) : zSl h' sv S := by
  obtain ⟨h0, h1, h2⟩ := hH
  exact ⟨(hf _ (by omega)).trans h0, (hf _ (by omega)).trans h1, fun i hi => ⟨(h2 i hi).1.fr (fun j a b => hf j (by omega)), (h2 i hi).2.1, fun e => ⟨((h2 i hi).2.2 e).1.fr (fun j a b => hf j (by omega)), ((h2 i hi).2.2 e).2⟩⟩⟩
theorem zPd.fr {h h' : List zC} {l : Nat} {f : Nat → Int32} (hH : zPd h l f) (hf : ∀ j, 80 ≤ j → j ≤ 81 → h'[j]? = h[j]?) : zPd h' l f := by
  obtain ⟨⟨x, kd, fi, se, h0⟩, h1, h2⟩ := hH
  exact ⟨⟨x, kd, fi, se, (hf _ (by omega) (by omega)).trans h0⟩, (hf _ (by omega) (by omega)).trans h1, h2⟩
theorem zKp.fr {h h' : List zC} {P T : Nat} {a : Nat → Int32} (hK : zKp h P T a) (hf : ∀ j, zWr j ∨ j = 77 → h'[j]? = h[j]?) : zKp h' P T a := by
  obtain ⟨hPT, hD, hS, ⟨ln, dr, hW, hC⟩, ⟨cf, sf, lf, t, hL⟩, ⟨cf', sf', lf', t', hT⟩⟩ := hK
  have pt : (P = 82 ∧ T = 86) ∨ (P = 86 ∧ T = 82) := hPT
  have hf : ∀ j, (j ≤ 9 ∨ (77 ≤ j ∧ j ≤ 79) ∨ (82 ≤ j ∧ j ≤ 89)) → h'[j]? = h[j]? := fun j hj => hf j (by unfold zWr; omega)
  exact ⟨hPT, (hf 0 (by omega)).trans hD, hS.fr (fun j a b => hf j (by omega)), hW.ex hC (fun j a b => hf j (by omega)), hL.ex (fun j a b => hf j (by omega)), hT.ex (fun j a b => hf j (by omega))⟩
theorem zKo.fr {h h' : List zC} {P T : Nat} {a : Nat → Int32} (hK : zKo h P T a) (hf : ∀ j, zWr j ∨ j = 77 → h'[j]? = h[j]?) : zKo h' P T a := by
  have pt : (P = 82 ∧ T = 86) ∨ (P = 86 ∧ T = 82) := hK.1.1
  exact ⟨hK.1.fr hf, hK.2.fr (fun j a b => hf j (by unfold zWr; omega))⟩
def zCl (h : List zC) (a : Nat → Int32) (n : Nat) (H : Nat → Nat → Int32) (sv : Nat → Int32) (S : Nat → Nat → Int32) (l : Nat) (f : Nat → Int32) : Prop := (∃ P T, zKo h P T a) ∧ zHi h n H ∧ zSl h sv S ∧ zPd h l f
section ZC
variable {h : List zC} {z : Nat × (Nat × (Nat → Int32))} {a : Nat → Int32} {Q : Option Value → zX → Prop} {n l : Nat} {H S : Nat → Nat → Int32} {sv f : Nat → Int32}
theorem c_H_draft (hg : zG a) (hS : zSt h 1 a) (hH : zHi h n H) (hQ : ∀ h' : List zC, zFr (fun j => 12 ≤ j ∧ j ≤ 74) h h' → zHd h' n H a → Q none (h', z)) : Ev 1 0 [.ref 10, .ref 1] [] (h, z) Q := by
  obtain ⟨o, ⟨h0, h1, h2, h3, h4⟩, h5⟩ := hH
  have e1 : nI (o + n) - nI (o + n) / 7 * 7 = nI ((o + n) % 7) := rem7 _ (by omega)
  have hm : (o + n) % 7 < 7 := Nat.mod_lt _ (by decide)
  have e2 : zinb (nI ((o + n) % 7)) 7 = true := zinb_nI hm (by decide)
  have e3 : (nI ((o + n) % 7)).toNatClampNeg = (o + n) % 7 := nI_clamp (by omega)
  obtain ⟨v0, v1, v2, v3, v4, f1, f2, f3, f4, f5, f6, f7, f8, hX⟩ := h4 _ hm
  have x0 := hX.1
  simp only [e1_0, e1_1, e1_4, e1_5, e1_8, e1_9, e1_12, e1_13, e1_15, e1_16, e1_17, e1_18, e1_21, zgF, zgA, zgR, zisO, zpush, zopt_some, ↓reduceIte, List.getElem?_cons_succ, List.getElem?_cons_zero, beq_self_eq_true, true_and, and_true, Bool.true_and, Bool.and_true, Bool.false_and, Bool.and_false, nI_1, not_true_eq_false, not_false_eq_true, vp_narI, h0, h1, nI_add, e1, e2, e3, hm, zrr, x0, (show ¬ (7 : Int32) = 0 by decide)]
  refine c_S_copyFrom hg (by omega) hS hX (fun h' F' S' => ?_)
  simp only [e1_0, e1_1, e1_4, e1_5, e1_8, e1_9, e1_12, e1_13, e1_15, e1_16, e1_17, e1_18, e1_21, zgF, zgA, zgR, zisO, zpush, zopt_some, ↓reduceIte, List.getElem?_cons_succ, List.getElem?_cons_zero, beq_self_eq_true, true_and, and_true, Bool.true_and, Bool.and_true, Bool.false_and, Bool.and_false, nI_1, not_true_eq_false, not_false_eq_true, vp_narI]
  have off : ∀ q, q < 12 + 9 * ((o + n) % 7) ∨ 12 + 9 * ((o + n) % 7) + 8 < q → h'[q]? = h[q]? := fun q hq => F'.2 q (by omega)
  refine hQ h' (F'.mono (fun j hj => by omega)) ⟨o, ⟨(off _ (by omega)).trans h0, (off _ (by omega)).trans h1, h2, h3, fun i hi => ?_⟩, fun j hj => ⟨(h5 j hj).1.fr (fun q a b => off q (by omega)), (h5 j hj).2⟩, S'⟩
  by_cases e : i = (o + n) % 7
  · subst e; exact S'.ty
  · exact (h4 i hi).fr (fun q a b => off q (by omega))
theorem c_H_keepDraft (hg : zG a) (hH : zHd h n H a) (hQ : ∀ h' : List zC, zFr (fun j => j = 10) h h' → zHi h' (pshN n) (pshH n H a) → Q none (h', z)) : Ev 2 0 [.ref 10] [] (h, z) Q := by
  obtain ⟨o, ⟨h0, h1, h2, h3, h4⟩, h5, h6⟩ := hH
  by_cases hn : n < 6
  · have e0 : ¬ (6 : Int32) ≤ nI n := nI_ge (b := 6) hn (by omega)
    simp only [e2_0, e2_1, e2_4, e2_6, e2_9, e2_10, e2_11, e2_14, e2_15, e2_16, e2_19, e2_22, e2_23, e2_24, e2_27, e2_28, e2_29, e2_31, e2_32, e2_35, zgF, zgA, zgR, zisO, zpush, zopt_some, ↓reduceIte, List.getElem?_cons_succ, List.getElem?_cons_zero, beq_self_eq_true, true_and, and_true, Bool.true_and, Bool.and_true, Bool.false_and, Bool.and_false, nI_1, not_true_eq_false, not_false_eq_true, vp_narI, h0, e0, zpF, List.length_cons, List.length_nil, Nat.reduceAdd, Nat.reduceLT, and_self, List.set_cons_succ, List.set_cons_zero]
    have e1 : pshN n = n + 1 := by unfold pshN; rw [if_pos hn]
    have F : zFr (fun j => j = 10) h (h.set 10 (zob 0 [.ref 11, .int (nI o), .int (nI (n + 1))])) := zFr.set rfl
    refine hQ _ F ⟨o, ⟨by rw [e1]; exact zset_self h0, zset_ne h1 (by omega), h2, by omega, fun i hi => (h4 i hi).fr (fun q a b => F.2 q (by omega))⟩, fun j hj => ?_⟩
    rw [e1] at hj
    unfold pshH
    rw [if_pos hn]
    by_cases e : j = n
    · rw [if_pos e, e]; exact ⟨h6.fr (fun q a b => F.2 q (by omega)), hg⟩
    · rw [if_neg e]; exact ⟨(h5 j (by omega)).1.fr (fun q a b => F.2 q (by omega)), (h5 j (by omega)).2⟩
  · have hn6 : n = 6 := by omega
    subst hn6
    have e0 : (6 : Int32) ≤ nI 6 := by decide
    have er : nI (o + 1) - nI (o + 1) / 7 * 7 = nI ((o + 1) % 7) := rem7 _ (by omega)
    simp only [e2_0, e2_1, e2_4, e2_6, e2_9, e2_10, e2_11, e2_14, e2_15, e2_16, e2_19, e2_22, e2_23, e2_24, e2_27, e2_28, e2_29, e2_31, e2_32, e2_35, zgF, zgA, zgR, zisO, zpush, zopt_some, ↓reduceIte, List.getElem?_cons_succ, List.getElem?_cons_zero, beq_self_eq_true, true_and, and_true, Bool.true_and, Bool.and_true, Bool.false_and, Bool.and_false, nI_1, not_true_eq_false, not_false_eq_true, vp_narI, h0, e0, er, (show ¬ (7 : Int32) = 0 by decide), zpF, List.length_cons, List.length_nil, Nat.reduceAdd, Nat.reduceLT, and_self, List.set_cons_succ, List.set_cons_zero]
    have F : zFr (fun j => j = 10) h (h.set 10 (zob 0 [.ref 11, .int (nI ((o + 1) % 7)), .int (nI 6)])) := zFr.set rfl
    refine hQ _ F ⟨(o + 1) % 7, ⟨zset_self h0, zset_ne h1 (by omega), Nat.mod_lt _ (by decide), by decide, fun i hi => (h4 i hi).fr (fun q a b => F.2 q (by omega))⟩, fun j hj => ?_⟩
    have hj : j < 6 := hj
    unfold pshH
    rw [if_neg (by decide)]
    by_cases e : j = 5
    · rw [if_pos e, e, show ((o + 1) % 7 + 5) % 7 = (o + 6) % 7 by omega]; exact ⟨h6.fr (fun q a b => F.2 q (by omega)), hg⟩
    · rw [if_neg e, show ((o + 1) % 7 + j) % 7 = (o + (j + 1)) % 7 by omega]; exact ⟨(h5 (j + 1) (by omega)).1.fr (fun q a b => F.2 q (by omega)), (h5 (j + 1) (by omega)).2⟩
theorem c_H_takeLatest {k : Nat} (hn : 0 < n) (hT : zTy h 1) (hH : zHi h n H) (hQ : ∀ h' : List zC, zFr (fun j => j = 10 ∨ (1 ≤ j ∧ j ≤ 9)) h h' → zHi h' (n - 1) H → zSt h' 1 (H (n - 1)) → zG (H (n - 1)) → Q none (h', z)) : Ev 3 0 [.ref 10, .ref 1] [] (h, z) Q := by
  obtain ⟨o, ⟨h0, h1, h2, h3, h4⟩, h5⟩ := hH
  obtain ⟨m, rfl⟩ : ∃ m, n = m + 1 := ⟨n - 1, by omega⟩
  rw [Nat.add_sub_cancel] at hQ
  have e0 : ¬ nI (m + 1) ≤ 0 := nI_ge (a := 0) (show 0 < m + 1 by omega) (by omega)
  have e1 : nI (o + m) - nI (o + m) / 7 * 7 = nI ((o + m) % 7) := rem7 _ (by omega)
  have hm : (o + m) % 7 < 7 := Nat.mod_lt _ (by decide)
  have e2 : zinb (nI ((o + m) % 7)) 7 = true := zinb_nI hm (by decide)
  have e3 : (nI ((o + m) % 7)).toNatClampNeg = (o + m) % 7 := nI_clamp (by omega)
  obtain ⟨s1, s2⟩ := h5 m (by omega)
  obtain ⟨v0, v1, v2, v3, v4, f1, f2, f3, f4, f5, f6, f7, f8, hX⟩ := hT
  have F : zFr (fun j => j = 10) h (h.set 10 (zob 0 [.ref 11, .int (nI o), .int (nI m)])) := zFr.set rfl
  have g0 := zset_self (c := zob 0 [.ref 11, .int (nI o), .int (nI m)]) h0
  have g1 := zset_ne (k := 10) (c := zob 0 [.ref 11, .int (nI o), .int (nI m)]) h1 (by omega)
  have S2 := s1.fr (h' := h.set 10 (zob 0 [.ref 11, .int (nI o), .int (nI m)])) (fun q a b => F.2 q (by omega))
  have X2 := hX.ne (j := 10) (c := zob 0 [.ref 11, .int (nI o), .int (nI m)]) (by omega)
  simp only [e3_0, e3_1, e3_4, e3_7, e3_8, e3_9, e3_12, e3_13, e3_14, e3_18, e3_19, e3_22, e3_23, e3_26, e3_27, e3_30, e3_31, e3_33, e3_34, e3_35, e3_38, zgF, zgA, zgR, zisO, zpush, zopt_some, ↓reduceIte, List.getElem?_cons_succ, List.getElem?_cons_zero, beq_self_eq_true, true_and, and_true, Bool.true_and, Bool.and_true, Bool.false_and, Bool.and_false, nI_1, not_true_eq_false, not_false_eq_true, vp_narI, h0, e0, nI_sub1, zpF, List.length_cons, List.length_nil, Nat.reduceAdd, Nat.reduceLT, and_self, List.set_cons_succ, List.set_cons_zero]
  generalize h.set 10 (zob 0 [.ref 11, .int (nI o), .int (nI m)]) = h1' at F g0 g1 S2 X2 ⊢
  have x0 := X2.1
  simp only [e3_0, e3_1, e3_4, e3_7, e3_8, e3_9, e3_12, e3_13, e3_14, e3_17, e3_18, e3_19, e3_22, e3_23, e3_26, e3_27, e3_30, e3_31, e3_33, e3_34, e3_35, e3_38, zgF, zgA, zgR, zisO, zpush, zopt_some, ↓reduceIte, List.getElem?_cons_succ, List.getElem?_cons_zero, beq_self_eq_true, true_and, and_true, Bool.true_and, Bool.and_true, Bool.false_and, Bool.and_false, nI_1, not_true_eq_false, not_false_eq_true, vp_narI, g0, g1, nI_add, e1, e2, e3, hm, zrr, x0, (show ¬ (7 : Int32) = 0 by decide)]
  refine c_S_copyFrom s2 (by omega) S2 X2 (fun h' F' S' => ?_)
  simp only [e3_0, e3_1, e3_4, e3_7, e3_8, e3_9, e3_12, e3_13, e3_14, e3_17, e3_18, e3_19, e3_22, e3_23, e3_26, e3_27, e3_30, e3_31, e3_33, e3_34, e3_35, e3_38, zgF, zgA, zgR, zisO, zpush, zopt_some, ↓reduceIte, List.getElem?_cons_succ, List.getElem?_cons_zero, beq_self_eq_true, true_and, and_true, Bool.true_and, Bool.and_true, Bool.false_and, Bool.and_false, nI_1, not_true_eq_false, not_false_eq_true, vp_narI]
  have off : ∀ q, 11 ≤ q → h'[q]? = h[q]? := fun q hq => (F'.2 q (by omega)).trans (F.2 q (by omega))
  refine hQ h' ((F.mono (fun j hj => Or.inl hj)).tr (F'.mono (fun j hj => by omega))) ⟨o, ⟨(F'.2 10 (by omega)).trans g0, (off _ (by omega)).trans h1, h2, by omega, fun i hi => (h4 i hi).fr (fun q a b => off q (by omega))⟩, fun j hj => ⟨(h5 j (by omega)).1.fr (fun q a b => off q (by omega)), (h5 j (by omega)).2⟩⟩ S' s2
theorem c_D_recorded {r : Int32} {P T : Nat} (hg : zG a) (hD : zDo h P T) (hH : zHd h n H a) (hQ : ∀ h' : List zC, zFr (fun j => j = 10) h h' → zHi h' (recN r n) (recH r n H a) → Q (some (.int r)) (h', z)) : Ev 53 0 [.ref 0, .int r] [] (h, z) Q := by
  have hD' : h[0]? = some (zob 5 [.ref 1, .ref 10, .ref 75, .ref 76, .ref 77, .ref 80, .ref P, .ref T]) := hD
  unfold recN recH at hQ
  by_cases hr : r < 0
  · simp only [if_pos hr] at hQ
    simp only [e53_0, e53_1, e53_4, e53_5, e53_8, e53_11, e53_12, zgF, zgA, zgR, zisO, zpush, zopt_some, ↓reduceIte, List.getElem?_cons_succ, List.getElem?_cons_zero, beq_self_eq_true, true_and, and_true, Bool.true_and, Bool.and_true, Bool.false_and, Bool.and_false, nI_1, not_true_eq_false, not_false_eq_true, vp_narI, hr]
    exact hQ h zFr.rf hH.hi
  · simp only [if_neg hr] at hQ
    obtain ⟨o, ⟨h0, -⟩, -⟩ := id hH
    simp only [e53_0, e53_1, e53_4, e53_5, e53_8, e53_11, e53_12, zgF, zgA, zgR, zisO, zpush, zopt_some, ↓reduceIte, List.getElem?_cons_succ, List.getElem?_cons_zero, beq_self_eq_true, true_and, and_true, Bool.true_and, Bool.and_true, Bool.false_and, Bool.and_false, nI_1, not_true_eq_false, not_false_eq_true, vp_narI, hr, hD', h0]
    refine c_H_keepDraft hg hH (fun h' F' H' => ?_)
    simp only [e53_0, e53_1, e53_4, e53_5, e53_8, e53_11, e53_12, zgF, zgA, zgR, zisO, zpush, zopt_some, ↓reduceIte, List.getElem?_cons_succ, List.getElem?_cons_zero, beq_self_eq_true, true_and, and_true, Bool.true_and, Bool.and_true, Bool.false_and, Bool.and_false, nI_1, not_true_eq_false, not_false_eq_true, vp_narI]
    exact hQ h' F' H'
end ZC
end
