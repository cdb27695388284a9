/-! the class's changes -/
section
set_option maxRecDepth 100000
def chS (a : Nat → Int32) (s v : Int32) : Int32 × (Nat → Int32) :=
  if s = 0 ∧ 1 ≤ v ∧ v ≤ 3 then (fmA a (upd a 0 v) 4, fmA a (upd a 0 v)) else if s = 1 ∧ zinb v 1000 = true then (fmA a (upd a 1 v) 4, fmA a (upd a 1 v)) else (-2, a)
def chB (a : Nat → Int32) (r w : Int32) : Int32 × (Nat → Int32) :=
  if zinb r 6 = true ∧ zinb w 17 = true then (if gN a 2 < 12 then (nI (gN a 2), fmA a (bldA a r w)) else (-4, a)) else (-2, a)
def chW (a : Nat → Int32) (s w : Int32) : Int32 × (Nat → Int32) :=
  if zinb s (gN a 2) = true then (if zinb w 17 = true then (fmA a (upd a (17 + s.toNatClampNeg) w) 4, fmA a (upd a (17 + s.toNatClampNeg) w)) else (-2, a)) else (-1, a)
def chR (a : Nat → Int32) (s r : Int32) : Int32 × (Nat → Int32) :=
  if zinb s (gN a 2) = true then (if zinb r 6 = true then (fmA a (upd a (5 + s.toNatClampNeg) r) 4, fmA a (upd a (5 + s.toNatClampNeg) r)) else (-2, a)) else (-1, a)
def chD (a : Nat → Int32) (s d : Int32) : Int32 × (Nat → Int32) :=
  if zinb s (gN a 2) = true then (if a (29 + s.toNatClampNeg) = d then (-5, a) else (fmA a (upd a (29 + s.toNatClampNeg) d) 4, fmA a (upd a (29 + s.toNatClampNeg) d))) else (-1, a)
def fnd (a : Nat → Int32) (o : Int32) : Int32 := fndF (fun i => a (41 + i) == o) (gN a 3) 0
def iposA (a : Nat → Int32) (o : Int32) : Nat := ipos (fun i => a (41 + i)) o (gN a 3)
def chK (a : Nat → Int32) (o : Int32) : Int32 × (Nat → Int32) :=
  if zinb o 10000 = true then (if gN a 3 < 40 then (if fnd a o = -6 then (nI (plK (insA a o) (iposA a o)).length, insA a o) else (-5, a)) else (-4, a)) else (-2, a)
def chX (a : Nat → Int32) (o : Int32) : Int32 × (Nat → Int32) :=
  if fnd a o = -6 then (-1, a) else (nI (gN a 3 - 1), remA a (fnd a o).toNatClampNeg)
def chP (a : Nat → Int32) (o v : Int32) : Int32 × (Nat → Int32) :=
  if fnd a o = -6 then (-1, a) else if v = -6 ∨ zinb v (gN a 2) = true then (fmA a (upd a (81 + (fnd a o).toNatClampNeg) v) 4, fmA a (upd a (81 + (fnd a o).toNatClampNeg) v)) else (-1, a)
theorem nI_ne6 {i : Nat} (h : i < 2 ^ 31) : nI i ≠ -6 := by
  intro e
  have h1 := nI_pos (n := i) h
  rw [e] at h1
  exact h1 (by decide)
theorem fndF_ok {p : Nat → Bool} : ∀ (j i : Nat), i + j < 2 ^ 31 → fndF p j i = -6 ∨ ∃ q, i ≤ q ∧ q < i + j ∧ p q = true ∧ fndF p j i = nI q
  | 0, _, _ => Or.inl rfl
  | j + 1, i, h => by
    unfold fndF
    split
    next hp => exact Or.inr ⟨i, by omega, by omega, hp, rfl⟩
    next =>
      rcases fndF_ok (p := p) j (i + 1) (by omega) with h | ⟨q, h1, h2, h3, h4⟩
      · exact Or.inl h
      · exact Or.inr ⟨q, by omega, by omega, h3, h4⟩
theorem fnd_ok {a : Nat → Int32} {o : Int32} (hg : zG a) (h : ¬ fnd a o = -6) : ∃ q, q < gN a 3 ∧ a (41 + q) = o ∧ fnd a o = nI q ∧ (fnd a o).toNatClampNeg = q := by
  have b3 := hg.2.2.2.1.2
  rcases fndF_ok (p := fun i => a (41 + i) == o) (gN a 3) 0 (by omega) with h1 | ⟨q, h1, h2, h3, h4⟩
  · exact absurd h1 h
  · refine ⟨q, by omega, by simpa using h3, h4, ?_⟩
    show (fndF _ _ _).toNatClampNeg = q
    rw [h4]; exact nI_clamp (by omega)
section ZC
variable {h : List zC} {z : Nat × (Nat × (Nat → Int32))} {a : Nat → Int32} {Q : Option Value → zX → Prop} {P T : Nat}
theorem c_D_isWeight {w : Int32} {X : zX} : Ev 55 0 [.int w] [] X Q = Q (some (.int (zb (zinb w 17)))) X := by
  by_cases hz : zinb w 17 = true
  · obtain ⟨k, hk, rfl⟩ := zinb_ex hz (by decide)
    have a1 : ¬ nI k < 0 := nI_pos (by omega)
    have a2 : ¬ (16 : Int32) < nI k := nI_nlt (a := 16) (show k ≤ 16 by omega) (by omega)
    simp only [e55_0, e55_1, e55_4, e55_5, e55_7, e55_10, e55_11, e55_14, e55_15, a1, a2, ↓reduceIte, hz, zb_t, z1_and, and_self, true_and]
  · rw [Bool.not_eq_true] at hz
    rcases (zinb_no (by decide)).mp hz with h | h
    · simp only [e55_0, e55_1, e55_4, e55_5, e55_7, e55_10, e55_11, e55_14, e55_15, h, ↓reduceIte, hz, zb_f, z0_and, and_self, true_and]
    · have a1 : ¬ w < 0 := Int32.not_lt.mpr (Int32.le_trans (by decide) h)
      have a2 : (16 : Int32) < w := Int32.lt_of_lt_of_le (by decide) h
      simp only [e55_0, e55_1, e55_4, e55_5, e55_7, e55_10, e55_11, e55_14, e55_15, a1, a2, ↓reduceIte, hz, zb_f, z0_and, and_self, true_and]
theorem c_D_isRack {w : Int32} {X : zX} : Ev 56 0 [.int w] [] X Q = Q (some (.int (zb (zinb w 6)))) X := by
  by_cases hz : zinb w 6 = true
  · obtain ⟨k, hk, rfl⟩ := zinb_ex hz (by decide)
    have a1 : ¬ nI k < 0 := nI_pos (by omega)
    have a2 : ¬ (6 : Int32) ≤ nI k := nI_ge (b := 6) hk (by omega)
    simp only [e56_0, e56_1, e56_4, e56_5, e56_7, e56_10, e56_11, e56_14, e56_15, a1, a2, ↓reduceIte, hz, zb_t, z1_and, and_self, true_and]
  · rw [Bool.not_eq_true] at hz
    rcases (zinb_no (by decide)).mp hz with h | h
    · simp only [e56_0, e56_1, e56_4, e56_5, e56_7, e56_10, e56_11, e56_14, e56_15, h, ↓reduceIte, hz, zb_f, z0_and, and_self, true_and]
    · have a1 : ¬ w < 0 := Int32.not_lt.mpr (Int32.le_trans (by decide) h)
      have a2 : (6 : Int32) ≤ w := h
      simp only [e56_0, e56_1, e56_4, e56_5, e56_7, e56_10, e56_11, e56_14, e56_15, a1, a2, ↓reduceIte, hz, zb_f, z0_and, and_self, true_and]
theorem c_D_weightError {s w : Int32} (hg : zG a) (hK : zKp h P T a) : Ev 54 0 [.ref 0, .int s, .int w] [] (h, z) Q = Q (some (.int (if zinb s (gN a 2) = true then (if zinb w 17 = true then 0 else -2) else -1))) (h, z) := by
  obtain ⟨hPT, hD, hS, -⟩ := hK
  have hD' : h[0]? = some (zob 5 [.ref 1, .ref 10, .ref 75, .ref 76, .ref 77, .ref 80, .ref P, .ref T]) := hD
  have c1 := fun (Q : Option Value → zX → Prop) => c_S_hasServer (s := s) (z := z) (Q := Q) hS hg
  have s0 := hS.1
  simp only [e54_0, e54_1, e54_4, e54_5, e54_8, e54_11, e54_12, e54_13, e54_14, e54_17, e54_20, e54_21, e54_24, e54_26, zgF, zgA, zgR, zisO, zpush, zopt_some, ↓reduceIte, List.getElem?_cons_succ, List.getElem?_cons_zero, beq_self_eq_true, true_and, and_true, Bool.true_and, Bool.and_true, Bool.false_and, Bool.and_false, nI_1, not_true_eq_false, not_false_eq_true, vp_narI, hD', s0, c1, c_D_isWeight]
  by_cases h1 : zinb s (gN a 2) = true
  · by_cases h2 : zinb w 17 = true
    · simp only [h1, h2, zb_t, zb_f, ↓reduceIte, (show ¬ (1 : Int32) = 0 by decide), not_false_eq_true, not_true_eq_false, e54_0, e54_1, e54_4, e54_5, e54_8, e54_11, e54_12, e54_13, e54_14, e54_17, e54_20, e54_21, e54_24, e54_26]
    · rw [Bool.not_eq_true] at h2
      simp only [h1, h2, zb_t, zb_f, ↓reduceIte, (show ¬ (1 : Int32) = 0 by decide), not_false_eq_true, not_true_eq_false, Bool.false_eq_true, e54_0, e54_1, e54_4, e54_5, e54_8, e54_11, e54_12, e54_13, e54_14, e54_17, e54_20, e54_21, e54_24, e54_26]
  · rw [Bool.not_eq_true] at h1
    simp only [h1, zb_t, zb_f, ↓reduceIte, (show ¬ (1 : Int32) = 0 by decide), not_false_eq_true, not_true_eq_false, Bool.false_eq_true, e54_0, e54_1, e54_4, e54_5, e54_8, e54_11, e54_12, e54_13, e54_14, e54_17, e54_20, e54_21, e54_24, e54_26]
/-- the state alone has changed -/
theorem zKo.st {h' : List zC} {b : Nat → Int32} (hK : zKo h P T a) (hF : zFr (fun j => 1 ≤ j ∧ j ≤ 9) h h') (hS : zSt h' 1 b) : zKp h' P T b ∧ zRw h' P a (gN a 3) := by
  obtain ⟨⟨hPT, hD, -, ⟨ln, dr, hW, hC⟩, ⟨cf, sf, lf, t, hL⟩, ⟨cf', sf', lf', t', hT⟩⟩, hY⟩ := hK
  have pt : (P = 82 ∧ T = 86) ∨ (P = 86 ∧ T = 82) := hPT
  have off : ∀ j, 77 ≤ j → h'[j]? = h[j]? := fun j hj => hF.2 j (by omega)
  exact ⟨⟨hPT, hF.at hD (by omega), hS, hW.ex hC (fun j h1 h2 => off j (by omega)), hL.ex (fun j h1 h2 => off j (by omega)), hT.ex (fun j h1 h2 => off j (by omega))⟩, hY.rw.fr (fun j h1 h2 => off j (by omega))⟩
theorem c_D_fmA {h1 : List zC} {b : Nat → Int32} (hg : zG a) (hb : zG b) (e3 : b 3 = a 3) (hK : zKo h P T a) (hF : zFr (fun j => 1 ≤ j ∧ j ≤ 9) h h1) (hS : zSt h1 1 b)
    (hQ : ∀ (h' : List zC) (P' T' : Nat), zFr zWr h h' → zKo h' P' T' (fmA a b) → Q (some (.int (fmA a b 4))) (h', z)) :
    Ev 58 0 [.ref 0, zU, zU, zU] [] (h1, z) Q := by
  obtain ⟨k1, k2⟩ := hK.st hF hS
  have x3 : gN b 3 = gN a 3 := by unfold gN; rw [e3]
  rw [← x3] at k2
  exact c_D_findMoves hb hg k1 k2 (fun h' F' K' => hQ h' T P ((hF.mono (fun j h => by unfold zWr; omega)).tr F') K')
theorem c_D_changeWeight {s w : Int32} (hg : zG a) (hK : zKo h P T a) (hQ : ∀ (h' : List zC) (P' T' : Nat), zFr zWr h h' → zKo h' P' T' (chW a s w).2 → Q (some (.int (chW a s w).1)) (h', z)) :
    Ev 48 0 [.ref 0, .int s, .int w, zU] [] (h, z) Q := by
  have c1 := fun (Q : Option Value → zX → Prop) => c_D_weightError (s := s) (w := w) (z := z) (Q := Q) hg hK.1
  have hD' : h[0]? = some (zob 5 [.ref 1, .ref 10, .ref 75, .ref 76, .ref 77, .ref 80, .ref P, .ref T]) := hK.1.2.1
  have hS := hK.1.2.2.1
  have s0 := hS.1
  unfold chW at hQ
  by_cases h1 : zinb s (gN a 2) = true
  · by_cases h2 : zinb w 17 = true
    · rw [if_pos h1, if_pos h2] at hQ
      obtain ⟨j, hj, rfl⟩ := zinb_ex h1 (by have := hg.2.2.1.2; omega)
      obtain ⟨q, hq, rfl⟩ := zinb_ex h2 (by decide)
      have b2 := hg.2.2.1.2
      have e1 : (nI j).toNatClampNeg = j := nI_clamp (by omega)
      have e2 : zinb (nI j) 12 = true := zinb_nI (by omega) (by decide)
      rw [e1] at hQ
      obtain ⟨f, hf, -, hS'⟩ := hS.weigh hg (s := j) (v := nI q) (by omega)
      simp only [e48_0, e48_1, e48_2, e48_3, e48_6, e48_7, e48_8, e48_11, e48_12, e48_13, e48_14, e48_17, e48_20, e48_21, e48_22, e48_23, e48_24, e48_27, zgF, zgA, zgR, zisO, zpush, zopt_some, ↓reduceIte, List.getElem?_cons_succ, List.getElem?_cons_zero, beq_self_eq_true, true_and, and_true, Bool.true_and, Bool.and_true, Bool.false_and, Bool.and_false, nI_1, not_true_eq_false, not_false_eq_true, vp_narI, hD', s0, c1, h1, h2, hf, e1, e2]
      refine ⟨by rw [zset_ne hD' (by decide)]; rfl, c_D_fmA hg (zG_weigh hg (by omega) (by omega)) (upd_n (by omega)) hK (zFr.set ⟨by omega, by omega⟩) hS' (fun h' P' T' F' K' => ?_)⟩
      simp only [e48_0, e48_1, e48_2, e48_3, e48_6, e48_7, e48_8, e48_11, e48_12, e48_13, e48_14, e48_17, e48_20, e48_21, e48_22, e48_23, e48_24, e48_27]
      exact hQ h' P' T' F' K'
    · rw [if_pos h1, if_neg h2] at hQ
      rw [Bool.not_eq_true] at h2
      simp only [e48_0, e48_1, e48_2, e48_3, e48_6, e48_7, e48_8, e48_11, e48_12, e48_13, e48_14, e48_17, e48_20, e48_21, e48_22, e48_23, e48_24, e48_27, zgF, zgA, zgR, zisO, zpush, zopt_some, ↓reduceIte, List.getElem?_cons_succ, List.getElem?_cons_zero, beq_self_eq_true, true_and, and_true, Bool.true_and, Bool.and_true, Bool.false_and, Bool.and_false, nI_1, not_true_eq_false, not_false_eq_true, vp_narI, hD', s0, c1, h1, h2, Bool.false_eq_true, (show ¬ (-2 : Int32) = 0 by decide)]
      exact hQ h P T zFr.rf hK
  · rw [if_neg h1] at hQ
    rw [Bool.not_eq_true] at h1
    simp only [e48_0, e48_1, e48_2, e48_3, e48_6, e48_7, e48_8, e48_11, e48_12, e48_13, e48_14, e48_17, e48_20, e48_21, e48_22, e48_23, e48_24, e48_27, zgF, zgA, zgR, zisO, zpush, zopt_some, ↓reduceIte, List.getElem?_cons_succ, List.getElem?_cons_zero, beq_self_eq_true, true_and, and_true, Bool.true_and, Bool.and_true, Bool.false_and, Bool.and_false, nI_1, not_true_eq_false, not_false_eq_true, vp_narI, hD', s0, c1, h1, Bool.false_eq_true, (show ¬ (-1 : Int32) = 0 by decide)]
    exact hQ h P T zFr.rf hK
theorem c_D_changeRack {s w : Int32} (hg : zG a) (hK : zKo h P T a) (hQ : ∀ (h' : List zC) (P' T' : Nat), zFr zWr h h' → zKo h' P' T' (chR a s w).2 → Q (some (.int (chR a s w).1)) (h', z)) :
    Ev 49 0 [.ref 0, .int s, .int w] [] (h, z) Q := by
  have hD' : h[0]? = some (zob 5 [.ref 1, .ref 10, .ref 75, .ref 76, .ref 77, .ref 80, .ref P, .ref T]) := hK.1.2.1
  have hS := hK.1.2.2.1
  have s0 := hS.1
  have c1 := fun (Q : Option Value → zX → Prop) => c_S_hasServer (s := s) (z := z) (Q := Q) hS hg
  unfold chR at hQ
  by_cases h1 : zinb s (gN a 2) = true
  · by_cases h2 : zinb w 6 = true
    · rw [if_pos h1, if_pos h2] at hQ
      obtain ⟨j, hj, rfl⟩ := zinb_ex h1 (by have := hg.2.2.1.2; omega)
      obtain ⟨q, hq, rfl⟩ := zinb_ex h2 (by decide)
      have b2 := hg.2.2.1.2
      have e1 : (nI j).toNatClampNeg = j := nI_clamp (by omega)
      have e2 : zinb (nI j) 12 = true := zinb_nI (by omega) (by decide)
      rw [e1] at hQ
      obtain ⟨f, hf, hS'⟩ := hS.rack hg (s := j) (v := nI q) (by omega)
      simp only [e49_0, e49_1, e49_4, e49_5, e49_8, e49_11, e49_12, e49_13, e49_14, e49_17, e49_20, e49_22, e49_23, e49_24, e49_27, e49_30, e49_31, e49_32, e49_33, e49_34, e49_37, zgF, zgA, zgR, zisO, zpush, zopt_some, ↓reduceIte, List.getElem?_cons_succ, List.getElem?_cons_zero, beq_self_eq_true, true_and, and_true, Bool.true_and, Bool.and_true, Bool.false_and, Bool.and_false, nI_1, not_true_eq_false, not_false_eq_true, vp_narI, hD', s0, c1, c_D_isRack, h1, h2, zb_t, (show ¬ (1 : Int32) = 0 by decide), hf, e1, e2]
      refine ⟨by rw [zset_ne hD' (by decide)]; rfl, c_D_fmA hg (zG_rack hg (by omega) (by omega)) (upd_n (by omega)) hK (zFr.set ⟨by omega, by omega⟩) hS' (fun h' P' T' F' K' => ?_)⟩
      simp only [e49_0, e49_1, e49_4, e49_5, e49_8, e49_11, e49_12, e49_13, e49_14, e49_17, e49_20, e49_22, e49_23, e49_24, e49_27, e49_30, e49_31, e49_32, e49_33, e49_34, e49_37]
      exact hQ h' P' T' F' K'
    · rw [if_pos h1, if_neg h2] at hQ
      rw [Bool.not_eq_true] at h2
      simp only [e49_0, e49_1, e49_4, e49_5, e49_8, e49_11, e49_12, e49_13, e49_14, e49_17, e49_20, e49_22, e49_23, e49_24, e49_27, e49_30, e49_31, e49_32, e49_33, e49_34, e49_37, zgF, zgA, zgR, zisO, zpush, zopt_some, ↓reduceIte, List.getElem?_cons_succ, List.getElem?_cons_zero, beq_self_eq_true, true_and, and_true, Bool.true_and, Bool.and_true, Bool.false_and, Bool.and_false, nI_1, not_true_eq_false, not_false_eq_true, vp_narI, hD', s0, c1, c_D_isRack, h1, h2, zb_t, zb_f, (show ¬ (1 : Int32) = 0 by decide)]
      exact hQ h P T zFr.rf hK
  · rw [if_neg h1] at hQ
    rw [Bool.not_eq_true] at h1
    simp only [e49_0, e49_1, e49_4, e49_5, e49_8, e49_11, e49_12, e49_13, e49_14, e49_17, e49_20, e49_22, e49_23, e49_24, e49_27, e49_30, e49_31, e49_32, e49_33, e49_34, e49_37, zgF, zgA, zgR, zisO, zpush, zopt_some, ↓reduceIte, List.getElem?_cons_succ, List.getElem?_cons_zero, beq_self_eq_true, true_and, and_true, Bool.true_and, Bool.and_true, Bool.false_and, Bool.and_false, nI_1, not_true_eq_false, not_false_eq_true, vp_narI, hD', s0, c1, h1, zb_f]
    exact hQ h P T zFr.rf hK
theorem c_D_changeDown {s d : Int32} (hg : zG a) (hd : d = 0 ∨ d = 1) (hK : zKo h P T a) (hQ : ∀ (h' : List zC) (P' T' : Nat), zFr zWr h h' → zKo h' P' T' (chD a s d).2 → Q (some (.int (chD a s d).1)) (h', z)) :
    Ev 50 0 [.ref 0, .int s, .int d] [] (h, z) Q := by
  have hD' : h[0]? = some (zob 5 [.ref 1, .ref 10, .ref 75, .ref 76, .ref 77, .ref 80, .ref P, .ref T]) := hK.1.2.1
  have hS := hK.1.2.2.1
  have s0 := hS.1
  have c1 := fun (Q : Option Value → zX → Prop) => c_S_hasServer (s := s) (z := z) (Q := Q) hS hg
  have hn : vp_nar .boolean d = d := by rcases hd with rfl | rfl <;> decide
  unfold chD at hQ
  by_cases h1 : zinb s (gN a 2) = true
  · rw [if_pos h1] at hQ
    obtain ⟨j, hj, rfl⟩ := zinb_ex h1 (by have := hg.2.2.1.2; omega)
    have b2 := hg.2.2.1.2
    have e1 : (nI j).toNatClampNeg = j := nI_clamp (by omega)
    have e2 : zinb (nI j) 12 = true := zinb_nI (by omega) (by decide)
    rw [e1] at hQ
    obtain ⟨f, hf, hfj, hS'⟩ := hS.down hg (s := j) (v := d) (by omega)
    have hfj := hfj hj
    by_cases h2 : a (29 + j) = d
    · rw [if_pos h2] at hQ
      simp only [e50_0, e50_1, e50_4, e50_5, e50_8, e50_11, e50_12, e50_13, e50_14, e50_17, e50_20, e50_21, e50_22, e50_23, e50_26, e50_28, e50_29, e50_30, e50_33, e50_36, e50_37, e50_38, e50_39, e50_40, e50_43, zgF, zgA, zgR, zisO, zpush, zopt_some, ↓reduceIte, List.getElem?_cons_succ, List.getElem?_cons_zero, beq_self_eq_true, true_and, and_true, Bool.true_and, Bool.and_true, Bool.false_and, Bool.and_false, nI_1, not_true_eq_false, not_false_eq_true, vp_narI, hD', s0, c1, h1, h2, hfj, zb_t, (show ¬ (1 : Int32) = 0 by decide), hf, e1, e2]
      exact hQ h P T zFr.rf hK
    · rw [if_neg h2] at hQ
      simp only [e50_0, e50_1, e50_4, e50_5, e50_8, e50_11, e50_12, e50_13, e50_14, e50_17, e50_20, e50_21, e50_22, e50_23, e50_26, e50_28, e50_29, e50_30, e50_33, e50_36, e50_37, e50_38, e50_39, e50_40, e50_43, zgF, zgA, zgR, zisO, zpush, zopt_some, ↓reduceIte, List.getElem?_cons_succ, List.getElem?_cons_zero, beq_self_eq_true, true_and, and_true, Bool.true_and, Bool.and_true, Bool.false_and, Bool.and_false, nI_1, not_true_eq_false, not_false_eq_true, vp_narI, hD', s0, c1, h1, h2, hfj, zb_t, (show ¬ (1 : Int32) = 0 by decide), hf, e1, e2, hn]
      refine ⟨by rw [zset_ne hD' (by decide)]; rfl, c_D_fmA hg (zG_down hg (by omega) hd) (upd_n (by omega)) hK (zFr.set ⟨by omega, by omega⟩) hS' (fun h' P' T' F' K' => ?_)⟩
      simp only [e50_0, e50_1, e50_4, e50_5, e50_8, e50_11, e50_12, e50_13, e50_14, e50_17, e50_20, e50_21, e50_22, e50_23, e50_26, e50_28, e50_29, e50_30, e50_33, e50_36, e50_37, e50_38, e50_39, e50_40, e50_43]
      exact hQ h' P' T' F' K'
  · rw [if_neg h1] at hQ
    rw [Bool.not_eq_true] at h1
    simp only [e50_0, e50_1, e50_4, e50_5, e50_8, e50_11, e50_12, e50_13, e50_14, e50_17, e50_20, e50_21, e50_22, e50_23, e50_26, e50_28, e50_29, e50_30, e50_33, e50_36, e50_37, e50_38, e50_39, e50_40, e50_43, zgF, zgA, zgR, zisO, zpush, zopt_some, ↓reduceIte, List.getElem?_cons_succ, List.getElem?_cons_zero, beq_self_eq_true, true_and, and_true, Bool.true_and, Bool.and_true, Bool.false_and, Bool.and_false, nI_1, not_true_eq_false, not_false_eq_true, vp_narI, hD', s0, c1, h1, zb_f]
    exact hQ h P T zFr.rf hK
theorem c_D_changePin {o v : Int32} (hg : zG a) (hK : zKo h P T a) (hQ : ∀ (h' : List zC) (P' T' : Nat), zFr zWr h h' → zKo h' P' T' (chP a o v).2 → Q (some (.int (chP a o v).1)) (h', z)) :
    Ev 52 0 [.ref 0, .int o, .int v, zU] [] (h, z) Q := by
  have hD' : h[0]? = some (zob 5 [.ref 1, .ref 10, .ref 75, .ref 76, .ref 77, .ref 80, .ref P, .ref T]) := hK.1.2.1
  have hS := hK.1.2.2.1
  have s0 := hS.1
  have c1 := fun (Q : Option Value → zX → Prop) => c_S_hasServer (s := v) (z := z) (Q := Q) hS hg
  have c2 := fun (Q : Option Value → zX → Prop) => c_S_rowOf (s := o) (z := z) (Q := Q) hS hg
  have e0 : fndF (fun i => a (41 + i) == o) (gN a 3) 0 = fnd a o := rfl
  rw [e0] at c2
  unfold chP at hQ
  by_cases h1 : fnd a o = -6
  · rw [if_pos h1] at hQ
    simp only [e52_0, e52_1, e52_4, e52_5, e52_8, e52_9, e52_10, e52_12, e52_15, e52_16, e52_18, e52_21, e52_22, e52_25, e52_26, e52_29, e52_32, e52_33, e52_34, e52_35, e52_38, e52_41, e52_42, e52_43, e52_44, e52_45, e52_48, zgF, zgA, zgR, zisO, zpush, zopt_some, ↓reduceIte, List.getElem?_cons_succ, List.getElem?_cons_zero, beq_self_eq_true, true_and, and_true, Bool.true_and, Bool.and_true, Bool.false_and, Bool.and_false, nI_1, not_true_eq_false, not_false_eq_true, vp_narI, hD', s0, c1, c2, h1]
    exact hQ h P T zFr.rf hK
  · rw [if_neg h1] at hQ
    obtain ⟨q, hq, -, h3, h4⟩ := fnd_ok hg h1
    have b3 := hg.2.2.2.1.2
    have e2 : zinb (fnd a o) 40 = true := by rw [h3]; exact zinb_nI (by omega) (by decide)
    by_cases h5 : v = -6 ∨ zinb v (gN a 2) = true
    · rw [if_pos h5, h4] at hQ
      obtain ⟨f, hf, hS'⟩ := hS.pin hg (s := q) (v := v) (by omega)
      have hv : v = -6 ∨ ∃ j, j < gN a 2 ∧ v = nI j := by
        rcases h5 with h | h
        · exact Or.inl h
        · exact Or.inr (zinb_ex h (by have := hg.2.2.1.2; omega))
      by_cases h6 : v = -6
      · simp only [e52_0, e52_1, e52_4, e52_5, e52_8, e52_9, e52_10, e52_12, e52_15, e52_16, e52_18, e52_21, e52_22, e52_25, e52_26, e52_29, e52_32, e52_33, e52_34, e52_35, e52_38, e52_41, e52_42, e52_43, e52_44, e52_45, e52_48, zgF, zgA, zgR, zisO, zpush, zopt_some, ↓reduceIte, List.getElem?_cons_succ, List.getElem?_cons_zero, beq_self_eq_true, true_and, and_true, Bool.true_and, Bool.and_true, Bool.false_and, Bool.and_false, nI_1, not_true_eq_false, not_false_eq_true, vp_narI, hD', s0, c1, c2, h1, h6, hf, h4, e2]
        rw [h6] at hS' hQ
        refine ⟨by rw [zset_ne hD' (by decide)]; rfl, c_D_fmA hg (zG_pin hg (by omega) (Or.inl rfl)) (upd_n (by omega)) hK (zFr.set ⟨by omega, by omega⟩) hS' (fun h' P' T' F' K' => ?_)⟩
        simp only [e52_0, e52_1, e52_4, e52_5, e52_8, e52_9, e52_10, e52_12, e52_15, e52_16, e52_18, e52_21, e52_22, e52_25, e52_26, e52_29, e52_32, e52_33, e52_34, e52_35, e52_38, e52_41, e52_42, e52_43, e52_44, e52_45, e52_48]
        exact hQ h' P' T' F' K'
      · have h7 : zinb v (gN a 2) = true := by
          rcases h5 with h | h
          · exact absurd h h6
          · exact h
        simp only [e52_0, e52_1, e52_4, e52_5, e52_8, e52_9, e52_10, e52_12, e52_15, e52_16, e52_18, e52_21, e52_22, e52_25, e52_26, e52_29, e52_32, e52_33, e52_34, e52_35, e52_38, e52_41, e52_42, e52_43, e52_44, e52_45, e52_48, zgF, zgA, zgR, zisO, zpush, zopt_some, ↓reduceIte, List.getElem?_cons_succ, List.getElem?_cons_zero, beq_self_eq_true, true_and, and_true, Bool.true_and, Bool.and_true, Bool.false_and, Bool.and_false, nI_1, not_true_eq_false, not_false_eq_true, vp_narI, hD', s0, c1, c2, h1, h6, h7, zb_t, (show ¬ (1 : Int32) = 0 by decide), hf, h4, e2]
        refine ⟨by rw [zset_ne hD' (by decide)]; rfl, c_D_fmA hg (zG_pin hg (by omega) hv) (upd_n (by omega)) hK (zFr.set ⟨by omega, by omega⟩) hS' (fun h' P' T' F' K' => ?_)⟩
        simp only [e52_0, e52_1, e52_4, e52_5, e52_8, e52_9, e52_10, e52_12, e52_15, e52_16, e52_18, e52_21, e52_22, e52_25, e52_26, e52_29, e52_32, e52_33, e52_34, e52_35, e52_38, e52_41, e52_42, e52_43, e52_44, e52_45, e52_48]
        exact hQ h' P' T' F' K'
    · rw [if_neg h5] at hQ
      have h6 : ¬ v = -6 := fun h => h5 (Or.inl h)
      have h7 : zinb v (gN a 2) = false := by rw [← Bool.not_eq_true]; exact fun h => h5 (Or.inr h)
      simp only [e52_0, e52_1, e52_4, e52_5, e52_8, e52_9, e52_10, e52_12, e52_15, e52_16, e52_18, e52_21, e52_22, e52_25, e52_26, e52_29, e52_32, e52_33, e52_34, e52_35, e52_38, e52_41, e52_42, e52_43, e52_44, e52_45, e52_48, zgF, zgA, zgR, zisO, zpush, zopt_some, ↓reduceIte, List.getElem?_cons_succ, List.getElem?_cons_zero, beq_self_eq_true, true_and, and_true, Bool.true_and, Bool.and_true, Bool.false_and, Bool.and_false, nI_1, not_true_eq_false, not_false_eq_true, vp_narI, hD', s0, c1, c2, h1, h6, h7, zb_f]
      exact hQ h P T zFr.rf hK
theorem c_D_changeSetting {s v : Int32} (hg : zG a) (hK : zKo h P T a) (hQ : ∀ (h' : List zC) (P' T' : Nat), zFr zWr h h' → zKo h' P' T' (chS a s v).2 → Q (some (.int (chS a s v).1)) (h', z)) :
    Ev 46 0 [.ref 0, .int s, .int v] [] (h, z) Q := by
  have hD' : h[0]? = some (zob 5 [.ref 1, .ref 10, .ref 75, .ref 76, .ref 77, .ref 80, .ref P, .ref T]) := hK.1.2.1
  have hS := hK.1.2.2.1
  have s0 := hS.1
  unfold chS at hQ
  by_cases h1 : s = 0
  · subst h1
    have n1 : ¬ (0 : Int32) = 1 := by decide
    by_cases h2 : 1 ≤ v ∧ v ≤ 3
    · rw [if_pos ⟨rfl, h2⟩] at hQ
      have h3 : ¬ v < 1 := Int32.not_lt.mpr h2.1
      have h4 : ¬ (3 : Int32) < v := Int32.not_lt.mpr h2.2
      have hz : zinb v 4 = true := by
        rw [← Bool.not_eq_false]
        intro h5
        rcases (zinb_no (by decide)).mp h5 with h6 | h6
        · exact h3 (Int32.lt_trans h6 (by decide))
        · exact h4 (Int32.lt_of_lt_of_le (by decide) h6)
      obtain ⟨q, hq, rfl⟩ := zinb_ex hz (by decide)
      have hq1 : 1 ≤ q := by
        rcases Nat.eq_zero_or_pos q with h | h
        · subst h; exact absurd (by decide) h3
        · exact h
      have hS' := hS.cop hg (v := nI q)
      simp only [e46_0, e46_1, e46_4, e46_5, e46_6, e46_9, e46_10, e46_11, e46_14, e46_15, e46_18, e46_19, e46_22, e46_23, e46_26, e46_27, e46_28, e46_29, e46_32, e46_33, e46_36, e46_37, e46_40, e46_43, e46_44, e46_47, e46_48, e46_51, e46_52, e46_55, e46_56, e46_58, zgF, zgA, zgR, zisO, zpush, zopt_some, ↓reduceIte, List.getElem?_cons_succ, List.getElem?_cons_zero, beq_self_eq_true, true_and, and_true, Bool.true_and, Bool.and_true, Bool.false_and, Bool.and_false, nI_1, not_true_eq_false, not_false_eq_true, vp_narI, hD', s0, h3, h4, zpF, List.length_cons, List.length_nil]
      simp only [Nat.reduceLT, and_self, List.set_cons_succ, List.set_cons_zero, ↓reduceIte, zopt_some, e46_0, e46_1, e46_4, e46_5, e46_6, e46_9, e46_10, e46_11, e46_14, e46_15, e46_18, e46_19, e46_22, e46_23, e46_26, e46_27, e46_28, e46_29, e46_32, e46_33, e46_36, e46_37, e46_40, e46_43, e46_44, e46_47, e46_48, e46_51, e46_52, e46_55, e46_56, e46_58, (show (0 + 1 + 1 + 1 + 1 + 1 + 1 + 1 + 1 + 1 + 1 + 1 + 1 + 1 : Nat) = 13 from rfl)]
      refine ⟨by rw [zset_ne hD' (by decide)]; rfl, c_D_fmA hg (zG_cop hg hq1 (by omega)) (upd_n (by omega)) hK (zFr.set ⟨by omega, by omega⟩) hS' (fun h' P' T' F' K' => ?_)⟩
      simp only [e46_0, e46_1, e46_4, e46_5, e46_6, e46_9, e46_10, e46_11, e46_14, e46_15, e46_18, e46_19, e46_22, e46_23, e46_26, e46_27, e46_28, e46_29, e46_32, e46_33, e46_36, e46_37, e46_40, e46_43, e46_44, e46_47, e46_48, e46_51, e46_52, e46_55, e46_56, e46_58]
      exact hQ h' P' T' F' K'
    · rw [if_neg (fun h => h2 h.2), if_neg (fun h => n1 h.1)] at hQ
      by_cases h3 : v < 1
      · simp only [e46_0, e46_1, e46_4, e46_5, e46_6, e46_9, e46_10, e46_11, e46_14, e46_15, e46_18, e46_19, e46_22, e46_23, e46_26, e46_27, e46_28, e46_29, e46_32, e46_33, e46_36, e46_37, e46_40, e46_43, e46_44, e46_47, e46_48, e46_51, e46_52, e46_55, e46_56, e46_58, zgF, zgA, zgR, zisO, zpush, zopt_some, ↓reduceIte, List.getElem?_cons_succ, List.getElem?_cons_zero, beq_self_eq_true, true_and, and_true, Bool.true_and, Bool.and_true, Bool.false_and, Bool.and_false, nI_1, not_true_eq_false, not_false_eq_true, vp_narI, h3, n1]
        exact hQ h P T zFr.rf hK
      · have h4 : (3 : Int32) < v := Int32.not_le.mp (fun h => h2 ⟨Int32.not_lt.mp h3, h⟩)
        simp only [e46_0, e46_1, e46_4, e46_5, e46_6, e46_9, e46_10, e46_11, e46_14, e46_15, e46_18, e46_19, e46_22, e46_23, e46_26, e46_27, e46_28, e46_29, e46_32, e46_33, e46_36, e46_37, e46_40, e46_43, e46_44, e46_47, e46_48, e46_51, e46_52, e46_55, e46_56, e46_58, zgF, zgA, zgR, zisO, zpush, zopt_some, ↓reduceIte, List.getElem?_cons_succ, List.getElem?_cons_zero, beq_self_eq_true, true_and, and_true, Bool.true_and, Bool.and_true, Bool.false_and, Bool.and_false, nI_1, not_true_eq_false, not_false_eq_true, vp_narI, h3, h4, n1]
        exact hQ h P T zFr.rf hK
  · rw [if_neg (fun h => h1 h.1)] at hQ
    by_cases h2 : s = 1
    · subst h2
      by_cases hz : zinb v 1000 = true
      · rw [if_pos ⟨rfl, hz⟩] at hQ
        obtain ⟨q, hq, rfl⟩ := zinb_ex hz (by decide)
        have h3 : ¬ nI q < 0 := nI_pos (by omega)
        have h4 : ¬ (999 : Int32) < nI q := nI_nlt (a := 999) (show q ≤ 999 by omega) (by omega)
        have hS' := hS.salt hg (v := nI q)
        simp only [e46_0, e46_1, e46_4, e46_5, e46_6, e46_9, e46_10, e46_11, e46_14, e46_15, e46_18, e46_19, e46_22, e46_23, e46_26, e46_27, e46_28, e46_29, e46_32, e46_33, e46_36, e46_37, e46_40, e46_43, e46_44, e46_47, e46_48, e46_51, e46_52, e46_55, e46_56, e46_58, zgF, zgA, zgR, zisO, zpush, zopt_some, ↓reduceIte, List.getElem?_cons_succ, List.getElem?_cons_zero, beq_self_eq_true, true_and, and_true, Bool.true_and, Bool.and_true, Bool.false_and, Bool.and_false, nI_1, not_true_eq_false, not_false_eq_true, vp_narI, hD', s0, h1, h3, h4, zpF, List.length_cons, List.length_nil]
        simp only [Nat.reduceLT, and_self, List.set_cons_succ, List.set_cons_zero, ↓reduceIte, zopt_some, e46_0, e46_1, e46_4, e46_5, e46_6, e46_9, e46_10, e46_11, e46_14, e46_15, e46_18, e46_19, e46_22, e46_23, e46_26, e46_27, e46_28, e46_29, e46_32, e46_33, e46_36, e46_37, e46_40, e46_43, e46_44, e46_47, e46_48, e46_51, e46_52, e46_55, e46_56, e46_58, (show (0 + 1 + 1 + 1 + 1 + 1 + 1 + 1 + 1 + 1 + 1 + 1 + 1 + 1 : Nat) = 13 from rfl)]
        refine ⟨by rw [zset_ne hD' (by decide)]; rfl, c_D_fmA hg (zG_salt hg (by omega)) (upd_n (by omega)) hK (zFr.set ⟨by omega, by omega⟩) hS' (fun h' P' T' F' K' => ?_)⟩
        simp only [e46_0, e46_1, e46_4, e46_5, e46_6, e46_9, e46_10, e46_11, e46_14, e46_15, e46_18, e46_19, e46_22, e46_23, e46_26, e46_27, e46_28, e46_29, e46_32, e46_33, e46_36, e46_37, e46_40, e46_43, e46_44, e46_47, e46_48, e46_51, e46_52, e46_55, e46_56, e46_58]
        exact hQ h' P' T' F' K'
      · rw [if_neg (fun h => hz h.2)] at hQ
        rw [Bool.not_eq_true] at hz
        rcases (zinb_no (by decide)).mp hz with h3 | h3
        · simp only [e46_0, e46_1, e46_4, e46_5, e46_6, e46_9, e46_10, e46_11, e46_14, e46_15, e46_18, e46_19, e46_22, e46_23, e46_26, e46_27, e46_28, e46_29, e46_32, e46_33, e46_36, e46_37, e46_40, e46_43, e46_44, e46_47, e46_48, e46_51, e46_52, e46_55, e46_56, e46_58, zgF, zgA, zgR, zisO, zpush, zopt_some, ↓reduceIte, List.getElem?_cons_succ, List.getElem?_cons_zero, beq_self_eq_true, true_and, and_true, Bool.true_and, Bool.and_true, Bool.false_and, Bool.and_false, nI_1, not_true_eq_false, not_false_eq_true, vp_narI, h1, h3]
          exact hQ h P T zFr.rf hK
        · have a1 : ¬ v < 0 := Int32.not_lt.mpr (Int32.le_trans (by decide) h3)
          have a2 : (999 : Int32) < v := Int32.lt_of_lt_of_le (by decide) h3
          simp only [e46_0, e46_1, e46_4, e46_5, e46_6, e46_9, e46_10, e46_11, e46_14, e46_15, e46_18, e46_19, e46_22, e46_23, e46_26, e46_27, e46_28, e46_29, e46_32, e46_33, e46_36, e46_37, e46_40, e46_43, e46_44, e46_47, e46_48, e46_51, e46_52, e46_55, e46_56, e46_58, zgF, zgA, zgR, zisO, zpush, zopt_some, ↓reduceIte, List.getElem?_cons_succ, List.getElem?_cons_zero, beq_self_eq_true, true_and, and_true, Bool.true_and, Bool.and_true, Bool.false_and, Bool.and_false, nI_1, not_true_eq_false, not_false_eq_true, vp_narI, h1, a1, a2]
          exact hQ h P T zFr.rf hK
    · rw [if_neg (fun h => h2 h.1)] at hQ
      simp only [e46_0, e46_1, e46_4, e46_5, e46_6, e46_9, e46_10, e46_11, e46_14, e46_15, e46_18, e46_19, e46_22, e46_23, e46_26, e46_27, e46_28, e46_29, e46_32, e46_33, e46_36, e46_37, e46_40, e46_43, e46_44, e46_47, e46_48, e46_51, e46_52, e46_55, e46_56, e46_58, zgF, zgA, zgR, zisO, zpush, zopt_some, ↓reduceIte, List.getElem?_cons_succ, List.getElem?_cons_zero, beq_self_eq_true, true_and, and_true, Bool.true_and, Bool.and_true, Bool.false_and, Bool.and_false, nI_1, not_true_eq_false, not_false_eq_true, vp_narI, h1, h2]
      exact hQ h P T zFr.rf hK
end ZC
end
