/-! what a layout answers; moves -/
section
set_option maxRecDepth 100000
/-- the servers of a list, as bits -/
def setI (l : List Nat) : Int32 := l.foldl (fun S p => S ||| ((1 : Int32) <<< (nI p &&& 31))) 0
theorem setI_app (l : List Nat) (b : Nat) : setI (l ++ [b]) = setI l ||| ((1 : Int32) <<< (nI b &&& 31)) := by simp [setI]
theorem take_s {l : List Nat} {i : Nat} (h : i < l.length) : l.take (i + 1) = l.take i ++ [l.getD i 0] := by
  rw [List.take_add_one, List.getElem?_eq_getElem h]
  simp [List.getD_eq_getElem?_getD, List.getElem?_eq_getElem h]
/-- a row of a layout holds a list -/
def zHas (cf sf : Nat → Int32) (r : Nat) (l : List Nat) : Prop := cf r = nI l.length ∧ ∀ j, j < l.length → sf (3 * r + j) = nI (l.getD j 0)
def plG (l : List Nat) (c : Int32) : Int32 := if zinb c l.length = true then nI (l.getD c.toNatClampNeg 0) else -6
def nfc (a : Nat → Int32) (s : Int32) : Nat → Int32
  | 0 => 0
  | k + 1 => nfc a s k + (if plG (plK a k) 0 = s then 1 else 0)
def nbl (a : Nat → Int32) (w : Int32) : Nat → Int32
  | 0 => 0
  | k + 1 => nbl a w k + (if nI (plK a k).length < w then 1 else 0)
def nthG (S n : Int32) : Nat → Nat → Int32 → Int32
  | 0, _, _ => -6
  | j + 1, i, b => if (S >>> (nI i &&& 31)) &&& 1 = 1 then (if b = n then nI i else nthG S n j (i + 1) (b + 1)) else nthG S n j (i + 1) b
def nthS (S : Int32) (n : Nat) : Int32 := nthG S (nI n) 12 0 0
/-- one move more -/
def addM (a : Nat → Int32) (o f t : Int32) : Nat → Int32 := upd (upd (upd (upd a (121 + 3 * gN a 4) o) (122 + 3 * gN a 4) f) (123 + 3 * gN a 4) t) 4 (nI (gN a 4 + 1))
def amv (o lost got : Int32) : Nat → Nat → (Nat → Int32) → Nat → Int32
  | 0, _, a => a
  | j + 1, i, a => if (nthS lost i = -6 ∧ nthS got i = -6) ∨ 120 ≤ gN a 4 then a else amv o lost got j (i + 1) (addM a o (nthS lost i) (nthS got i))
section ZC
variable {h : List zC} {z : Nat × (Nat × (Nat → Int32))} {k : Nat} {a : Nat → Int32} {Q : Option Value → zX → Prop}
theorem c_Y_serverOf {y r : Nat} {c : Int32} {cf sf lf : Nat → Int32} {t : Int32} {l : List Nat} (hL : zLo h y cf sf lf t) (hr : r < 41) (hH : zHas cf sf r l) (hl : l.length ≤ 3) : Ev 7 0 [.ref y, .int (nI r), .int c] [] (h, z) Q = Q (some (.int (plG l c))) (h, z) := by
  obtain ⟨h0, h1, h2, h3⟩ := hL
  have e1 : zinb (nI r) 41 = true := zinb_nI hr (by decide)
  have e2 : (nI r).toNatClampNeg = r := nI_clamp (by omega)
  by_cases hb : zinb c l.length = true
  · obtain ⟨j, hj, rfl⟩ := zinb_ex hb (by omega)
    have e3 : ¬ nI j < 0 := nI_pos (by omega)
    have e4 : nI j < nI l.length := nI_lt hj (by omega)
    have e5 : zinb (nI (r * 3 + j)) 123 = true := zinb_nI (by omega) (by decide)
    have e6 : (nI (r * 3 + j)).toNatClampNeg = 3 * r + j := by rw [nI_clamp (by omega)]; omega
    have e7 : (nI j).toNatClampNeg = j := nI_clamp (by omega)
    simp only [e7_0, e7_1, e7_4, e7_5, e7_6, e7_9, e7_10, e7_11, e7_14, e7_16, e7_17, e7_18, e7_21, e7_22, e7_23, e7_24, e7_25, e7_26, e7_27, zgF, zgA, zgR, zisO, zpush, zopt_some, ↓reduceIte, List.getElem?_cons_succ, List.getElem?_cons_zero, beq_self_eq_true, true_and, and_true, Bool.true_and, Bool.and_true, Bool.false_and, Bool.and_false, nI_1, not_true_eq_false, not_false_eq_true, vp_narI, h0, h1, h2, e1, e2, hH.1, e3, e4, zc3, pk_mul, nI_add, e5, e6, hH.2 j hj, plG, hb, e7]
  · have hb : zinb c l.length = false := by simpa using hb
    rcases (zinb_no (by omega)).mp hb with h5 | h5
    · simp only [e7_0, e7_1, e7_4, e7_5, e7_6, e7_9, e7_10, e7_11, e7_14, e7_16, e7_17, e7_18, e7_21, e7_22, e7_23, e7_24, e7_25, e7_26, e7_27, zgF, zgA, zgR, zisO, zpush, zopt_some, ↓reduceIte, List.getElem?_cons_succ, List.getElem?_cons_zero, beq_self_eq_true, true_and, and_true, Bool.true_and, Bool.and_true, Bool.false_and, Bool.and_false, nI_1, not_true_eq_false, not_false_eq_true, vp_narI, h5, plG, hb, Bool.false_eq_true]
    · have h6 : ¬ c < nI l.length := Int32.not_lt.mpr h5
      by_cases h7 : c < 0
      · simp only [e7_0, e7_1, e7_4, e7_5, e7_6, e7_9, e7_10, e7_11, e7_14, e7_16, e7_17, e7_18, e7_21, e7_22, e7_23, e7_24, e7_25, e7_26, e7_27, zgF, zgA, zgR, zisO, zpush, zopt_some, ↓reduceIte, List.getElem?_cons_succ, List.getElem?_cons_zero, beq_self_eq_true, true_and, and_true, Bool.true_and, Bool.and_true, Bool.false_and, Bool.and_false, nI_1, not_true_eq_false, not_false_eq_true, vp_narI, h7, plG, hb, Bool.false_eq_true]
      · simp only [e7_0, e7_1, e7_4, e7_5, e7_6, e7_9, e7_10, e7_11, e7_14, e7_16, e7_17, e7_18, e7_21, e7_22, e7_23, e7_24, e7_25, e7_26, e7_27, zgF, zgA, zgR, zisO, zpush, zopt_some, ↓reduceIte, List.getElem?_cons_succ, List.getElem?_cons_zero, beq_self_eq_true, true_and, and_true, Bool.true_and, Bool.and_true, Bool.false_and, Bool.and_false, nI_1, not_true_eq_false, not_false_eq_true, vp_narI, h0, h1, e1, e2, hH.1, h6, h7, plG, hb, Bool.false_eq_true]
theorem l_Y_serversOf {y r : Nat} {cf sf lf : Nat → Int32} {t : Int32} {l : List Nat} (hL : zLo h y cf sf lf t) (hr : r < 41) (hH : zHas cf sf r l) (hl : l.length ≤ 3) : ∀ j i : Nat, i + j = l.length → Ev 8 4 [.ref y, .int (nI r), .int (setI (l.take i)), .int (nI i)] [] (h, z) Q = Q (some (.int (setI l))) (h, z) := by
  obtain ⟨h0, h1, h2, h3⟩ := hL
  have e1 : zinb (nI r) 41 = true := zinb_nI hr (by decide)
  have e2 : (nI r).toNatClampNeg = r := nI_clamp (by omega)
  intro j
  induction j with
  | zero =>
    intro i hi
    have hi : i = l.length := by omega
    subst hi
    have e3 : nI l.length ≤ nI l.length := Int32.le_refl _
    rw [e8_4, List.take_length]
    simp only [e8_0, e8_1, e8_2, e8_3, e8_5, e8_6, e8_9, e8_10, e8_11, e8_14, e8_15, e8_16, e8_17, e8_20, e8_21, e8_22, e8_23, e8_24, e8_25, e8_26, e8_27, e8_28, e8_29, e8_32, e8_35, e8_36, zgF, zgA, zgR, zisO, zpush, zopt_some, ↓reduceIte, List.getElem?_cons_succ, List.getElem?_cons_zero, beq_self_eq_true, true_and, and_true, Bool.true_and, Bool.and_true, Bool.false_and, Bool.and_false, nI_1, not_true_eq_false, not_false_eq_true, vp_narI, h0, h1, e1, e2, hH.1, e3]
  | succ j ih =>
    intro i hi
    have hlt : i < l.length := by omega
    have e3 : ¬ nI l.length ≤ nI i := nI_ge hlt (by omega)
    have e5 : zinb (nI (r * 3 + i)) 123 = true := zinb_nI (by omega) (by decide)
    have e6 : (nI (r * 3 + i)).toNatClampNeg = 3 * r + i := by rw [nI_clamp (by omega)]; omega
    rw [← ih (i + 1) (by omega), e8_4, take_s hlt, setI_app]
    simp only [e8_0, e8_1, e8_2, e8_3, e8_5, e8_6, e8_9, e8_10, e8_11, e8_14, e8_15, e8_16, e8_17, e8_20, e8_21, e8_22, e8_23, e8_24, e8_25, e8_26, e8_27, e8_28, e8_29, e8_32, e8_35, e8_36, zgF, zgA, zgR, zisO, zpush, zopt_some, ↓reduceIte, List.getElem?_cons_succ, List.getElem?_cons_zero, beq_self_eq_true, true_and, and_true, Bool.true_and, Bool.and_true, Bool.false_and, Bool.and_false, nI_1, not_true_eq_false, not_false_eq_true, vp_narI, h0, h1, h2, e1, e2, hH.1, e3, zc3, pk_mul, nI_add, e5, e6, hH.2 i hlt]
theorem c_Y_serversOf {y r : Nat} {cf sf lf : Nat → Int32} {t : Int32} {l : List Nat} (hL : zLo h y cf sf lf t) (hr : r < 41) (hH : zHas cf sf r l) (hl : l.length ≤ 3) : Ev 8 0 [.ref y, .int (nI r), zU, zU] [] (h, z) Q = Q (some (.int (setI l))) (h, z) := by
  refine Eq.trans ?_ (l_Y_serversOf hL hr hH hl l.length 0 (by omega))
  simp only [e8_0, e8_1, e8_2, e8_3, e8_5, e8_6, e8_9, e8_10, e8_11, e8_14, e8_15, e8_16, e8_17, e8_20, e8_21, e8_22, e8_23, e8_24, e8_25, e8_26, e8_27, e8_28, e8_29, e8_32, e8_35, e8_36]
  rfl
theorem l_Y_firstCopies {y : Nat} {s : Int32} {cf sf lf : Nat → Int32} {t : Int32} {m : Nat} (hg : zG a) (hL : zLo h y cf sf lf t) (hA : zLA a m cf sf lf t) (hm : m ≤ 40) : ∀ j i : Nat, i + j = m → Ev 9 5 [.ref y, .int s, .int (nI m), .int (nfc a s i), .int (nI i)] [] (h, z) Q = Q (some (.int (nfc a s m))) (h, z) := by
  intro j
  induction j with
  | zero =>
    intro i hi
    have hi : i = m := by omega
    subst hi
    have e3 : nI i ≤ nI i := Int32.le_refl _
    simp only [e9_0, e9_1, e9_2, e9_3, e9_5, e9_7, e9_8, e9_11, e9_12, e9_14, e9_15, e9_18, e9_19, e9_22, e9_25, e9_28, e9_31, e9_32, zgF, zgA, zgR, zisO, zpush, zopt_some, ↓reduceIte, List.getElem?_cons_succ, List.getElem?_cons_zero, beq_self_eq_true, true_and, and_true, Bool.true_and, Bool.and_true, Bool.false_and, Bool.and_false, nI_1, not_true_eq_false, not_false_eq_true, vp_narI, e3]
  | succ j ih =>
    intro i hi
    have hlt : i < m := by omega
    have e3 : ¬ nI m ≤ nI i := nI_ge hlt (by omega)
    have hS := fun (c : Int32) (Q : Option Value → zX → Prop) => c_Y_serverOf (c := c) (Q := Q) (z := z) hL (show i < 41 by omega) (hA.1 i hlt) (plK_ok hg i).2
    rw [← ih (i + 1) (by omega), e9_5]
    simp only [e9_0, e9_1, e9_2, e9_3, e9_7, e9_8, e9_11, e9_12, e9_14, e9_15, e9_18, e9_19, e9_22, e9_25, e9_28, e9_31, e9_32, zgF, zgA, zgR, zisO, zpush, zopt_some, ↓reduceIte, List.getElem?_cons_succ, List.getElem?_cons_zero, beq_self_eq_true, true_and, and_true, Bool.true_and, Bool.and_true, Bool.false_and, Bool.and_false, nI_1, not_true_eq_false, not_false_eq_true, vp_narI, hL.1, e3, hS, nfc]
    by_cases h5 : plG (plK a i) 0 = s
    · simp only [e9_0, e9_1, e9_2, e9_3, e9_7, e9_8, e9_11, e9_12, e9_14, e9_15, e9_18, e9_19, e9_22, e9_25, e9_28, e9_31, e9_32, h5, zgF, zgA, zgR, zisO, zpush, zopt_some, ↓reduceIte, List.getElem?_cons_succ, List.getElem?_cons_zero, beq_self_eq_true, true_and, and_true, Bool.true_and, Bool.and_true, Bool.false_and, Bool.and_false, nI_1, not_true_eq_false, not_false_eq_true, vp_narI]
    · simp only [e9_0, e9_1, e9_2, e9_3, e9_7, e9_8, e9_11, e9_12, e9_14, e9_15, e9_18, e9_19, e9_22, e9_25, e9_28, e9_31, e9_32, h5, zgF, zgA, zgR, zisO, zpush, zopt_some, ↓reduceIte, List.getElem?_cons_succ, List.getElem?_cons_zero, beq_self_eq_true, true_and, and_true, Bool.true_and, Bool.and_true, Bool.false_and, Bool.and_false, nI_1, not_true_eq_false, not_false_eq_true, vp_narI, Int32.add_zero]
theorem c_Y_firstCopies {y : Nat} {s : Int32} {cf sf lf : Nat → Int32} {t : Int32} {m : Nat} (hg : zG a) (hL : zLo h y cf sf lf t) (hA : zLA a m cf sf lf t) (hm : m ≤ 40) : Ev 9 0 [.ref y, .int s, .int (nI m), zU, zU] [] (h, z) Q = Q (some (.int (nfc a s m))) (h, z) := by
  refine Eq.trans ?_ (l_Y_firstCopies hg hL hA hm m 0 (by omega))
  simp only [e9_0, e9_1, e9_2, e9_3, e9_7, e9_8, e9_11, e9_12, e9_14, e9_15, e9_18, e9_19, e9_22, e9_25, e9_28, e9_31, e9_32]
  rfl
theorem l_Y_rowsBelow {y : Nat} {w : Int32} {cf sf lf : Nat → Int32} {t : Int32} {m : Nat} (hg : zG a) (hL : zLo h y cf sf lf t) (hA : zLA a m cf sf lf t) (hm : m ≤ 40) : ∀ j i : Nat, i + j = m → Ev 10 5 [.ref y, .int w, .int (nI m), .int (nbl a w i), .int (nI i)] [] (h, z) Q = Q (some (.int (nbl a w m))) (h, z) := by
  intro j
  induction j with
  | zero =>
    intro i hi
    have hi : i = m := by omega
    subst hi
    have e3 : nI i ≤ nI i := Int32.le_refl _
    simp only [e10_0, e10_1, e10_2, e10_3, e10_5, e10_7, e10_8, e10_11, e10_12, e10_15, e10_17, e10_18, e10_19, e10_22, e10_25, e10_28, e10_31, e10_32, zgF, zgA, zgR, zisO, zpush, zopt_some, ↓reduceIte, List.getElem?_cons_succ, List.getElem?_cons_zero, beq_self_eq_true, true_and, and_true, Bool.true_and, Bool.and_true, Bool.false_and, Bool.and_false, nI_1, not_true_eq_false, not_false_eq_true, vp_narI, e3]
  | succ j ih =>
    intro i hi
    have hlt : i < m := by omega
    have e3 : ¬ nI m ≤ nI i := nI_ge hlt (by omega)
    have e1 : zinb (nI i) 41 = true := zinb_nI (by omega) (by decide)
    have e2 : (nI i).toNatClampNeg = i := nI_clamp (by omega)
    rw [← ih (i + 1) (by omega), e10_5]
    simp only [e10_0, e10_1, e10_2, e10_3, e10_7, e10_8, e10_11, e10_12, e10_15, e10_17, e10_18, e10_19, e10_22, e10_25, e10_28, e10_31, e10_32, zgF, zgA, zgR, zisO, zpush, zopt_some, ↓reduceIte, List.getElem?_cons_succ, List.getElem?_cons_zero, beq_self_eq_true, true_and, and_true, Bool.true_and, Bool.and_true, Bool.false_and, Bool.and_false, nI_1, not_true_eq_false, not_false_eq_true, vp_narI, hL.1, hL.2.1, e1, e2, e3, (hA.1 i hlt).1, nbl]
    by_cases h5 : nI (plK a i).length < w
    · have h6 : ¬ w ≤ nI (plK a i).length := Int32.not_le.mpr h5
      simp only [e10_0, e10_1, e10_2, e10_3, e10_7, e10_8, e10_11, e10_12, e10_15, e10_17, e10_18, e10_19, e10_22, e10_25, e10_28, e10_31, e10_32, h5, h6, zgF, zgA, zgR, zisO, zpush, zopt_some, ↓reduceIte, List.getElem?_cons_succ, List.getElem?_cons_zero, beq_self_eq_true, true_and, and_true, Bool.true_and, Bool.and_true, Bool.false_and, Bool.and_false, nI_1, not_true_eq_false, not_false_eq_true, vp_narI]
    · have h6 : w ≤ nI (plK a i).length := Int32.not_lt.mp h5
      simp only [e10_0, e10_1, e10_2, e10_3, e10_7, e10_8, e10_11, e10_12, e10_15, e10_17, e10_18, e10_19, e10_22, e10_25, e10_28, e10_31, e10_32, h5, h6, zgF, zgA, zgR, zisO, zpush, zopt_some, ↓reduceIte, List.getElem?_cons_succ, List.getElem?_cons_zero, beq_self_eq_true, true_and, and_true, Bool.true_and, Bool.and_true, Bool.false_and, Bool.and_false, nI_1, not_true_eq_false, not_false_eq_true, vp_narI, Int32.add_zero]
theorem c_Y_rowsBelow {y : Nat} {w : Int32} {cf sf lf : Nat → Int32} {t : Int32} {m : Nat} (hg : zG a) (hL : zLo h y cf sf lf t) (hA : zLA a m cf sf lf t) (hm : m ≤ 40) : Ev 10 0 [.ref y, .int w, .int (nI m), zU, zU] [] (h, z) Q = Q (some (.int (nbl a w m))) (h, z) := by
  refine Eq.trans ?_ (l_Y_rowsBelow hg hL hA hm m 0 (by omega))
  simp only [e10_0, e10_1, e10_2, e10_3, e10_7, e10_8, e10_11, e10_12, e10_15, e10_17, e10_18, e10_19, e10_22, e10_25, e10_28, e10_31, e10_32]
  rfl
theorem l_S_nthServer {S n : Int32} {X : zX} : ∀ (j i : Nat) (b : Int32), i + j = 12 → Ev 22 4 [.int S, .int n, .int b, .int (nI i)] [] X Q = Q (some (.int (nthG S n j i b))) X := by
  intro j
  induction j with
  | zero =>
    intro i b hi
    have hi : i = 12 := by omega
    subst hi
    have e3 : (12 : Int32) ≤ nI 12 := by decide
    simp only [e22_0, e22_1, e22_2, e22_3, e22_4, e22_5, e22_7, e22_10, e22_11, e22_12, e22_13, e22_14, e22_15, e22_16, e22_19, e22_20, e22_21, e22_24, e22_25, e22_26, e22_29, e22_32, e22_35, e22_37, zgF, zgA, zgR, zisO, zpush, zopt_some, ↓reduceIte, List.getElem?_cons_succ, List.getElem?_cons_zero, beq_self_eq_true, true_and, and_true, Bool.true_and, Bool.and_true, Bool.false_and, Bool.and_false, nI_1, not_true_eq_false, not_false_eq_true, vp_narI, e3, nthG]
  | succ j ih =>
    intro i b hi
    have e3 : ¬ (12 : Int32) ≤ nI i := nI_ge (b := 12) (show i < 12 by omega) (by decide)
    have ih1 := fun b => ih (i + 1) b (by omega)
    rw [e22_4]
    simp only [e22_0, e22_1, e22_2, e22_3, e22_5, e22_7, e22_10, e22_11, e22_12, e22_13, e22_14, e22_15, e22_16, e22_19, e22_20, e22_21, e22_24, e22_25, e22_26, e22_29, e22_32, e22_35, e22_37, zgF, zgA, zgR, zisO, zpush, zopt_some, ↓reduceIte, List.getElem?_cons_succ, List.getElem?_cons_zero, beq_self_eq_true, true_and, and_true, Bool.true_and, Bool.and_true, Bool.false_and, Bool.and_false, nI_1, not_true_eq_false, not_false_eq_true, vp_narI, e3, nthG]
    by_cases h5 : (S >>> (nI i &&& 31)) &&& 1 = 1
    · simp only [h5, zgF, zgA, zgR, zisO, zpush, zopt_some, ↓reduceIte, List.getElem?_cons_succ, List.getElem?_cons_zero, beq_self_eq_true, true_and, and_true, Bool.true_and, Bool.and_true, Bool.false_and, Bool.and_false, nI_1, not_true_eq_false, not_false_eq_true, vp_narI]
      by_cases h6 : b = n
      · simp only [h6, zgF, zgA, zgR, zisO, zpush, zopt_some, ↓reduceIte, List.getElem?_cons_succ, List.getElem?_cons_zero, beq_self_eq_true, true_and, and_true, Bool.true_and, Bool.and_true, Bool.false_and, Bool.and_false, nI_1, not_true_eq_false, not_false_eq_true, vp_narI]
      · simp only [h6, zgF, zgA, zgR, zisO, zpush, zopt_some, ↓reduceIte, List.getElem?_cons_succ, List.getElem?_cons_zero, beq_self_eq_true, true_and, and_true, Bool.true_and, Bool.and_true, Bool.false_and, Bool.and_false, nI_1, not_true_eq_false, not_false_eq_true, vp_narI]
        exact ih1 _
    · simp only [h5, zgF, zgA, zgR, zisO, zpush, zopt_some, ↓reduceIte, List.getElem?_cons_succ, List.getElem?_cons_zero, beq_self_eq_true, true_and, and_true, Bool.true_and, Bool.and_true, Bool.false_and, Bool.and_false, nI_1, not_true_eq_false, not_false_eq_true, vp_narI]
      exact ih1 _
theorem c_S_nthServer {S : Int32} {n : Nat} {X : zX} : Ev 22 0 [.int S, .int (nI n), zU, zU] [] X Q = Q (some (.int (nthS S n))) X := by
  refine Eq.trans ?_ (l_S_nthServer 12 0 0 (by omega))
  simp only [e22_0, e22_1, e22_2, e22_3, e22_5, e22_7, e22_10, e22_11, e22_12, e22_13, e22_14, e22_15, e22_16, e22_19, e22_20, e22_21, e22_24, e22_25, e22_26, e22_29, e22_32, e22_35, e22_37]
  rfl
theorem gN_u {i j : Nat} {x : Int32} (h : j ≠ i) : gN (upd a i x) j = gN a j := by unfold gN; rw [upd_n h]
theorem addM_at {o f t : Int32} (i : Nat) : addM a o f t i = if i = 4 then nI (gN a 4 + 1) else if i = 121 + 3 * gN a 4 then o else if i = 122 + 3 * gN a 4 then f else if i = 123 + 3 * gN a 4 then t else a i := by
  unfold addM upd
  by_cases h1 : i = 4
  · simp [h1]
  · by_cases h2 : i = 123 + 3 * gN a 4
    · rw [if_neg h1, if_pos h2, if_neg h1, if_neg (by omega), if_neg (by omega), if_pos h2]
    · by_cases h3 : i = 122 + 3 * gN a 4
      · rw [if_neg h1, if_neg h2, if_pos h3, if_neg h1, if_neg (by omega), if_pos h3]
      · rw [if_neg h1, if_neg h2, if_neg h3]
        simp only [if_neg h1, if_neg h3, if_neg h2]
theorem addM_lo {o f t : Int32} {i : Nat} (h4 : i ≠ 4) (hi : i < 121) : addM a o f t i = a i := by
  rw [addM_at, if_neg h4, if_neg (by omega), if_neg (by omega), if_neg (by omega)]
theorem gN_addM {o f t : Int32} (h : gN a 4 < 2 ^ 30) : gN (addM a o f t) 4 = gN a 4 + 1 := by
  unfold gN
  rw [addM_at, if_pos rfl]
  exact nI_clamp (by show (a 4).toNatClampNeg + 1 < 2 ^ 31; have : (a 4).toNatClampNeg < 2 ^ 30 := h; omega)
theorem zG_eq {b : Nat → Int32} (hg : zG a) (h4 : b 4 = nI (gN b 4) ∧ gN b 4 ≤ 120) (he : ∀ i, i < 121 → i ≠ 4 → b i = a i) : zG b := by
  have e : ∀ i, i < 121 → i ≠ 4 → gN b i = gN a i := fun i h1 h2 => by unfold gN; rw [he i h1 h2]
  have h12 := hg.2.2.1.2
  have h40 := hg.2.2.2.1.2
  unfold zG
  rw [he 0 (by decide) (by decide), e 0 (by decide) (by decide), he 1 (by decide) (by decide), e 1 (by decide) (by decide), he 2 (by decide) (by decide), e 2 (by decide) (by decide), he 3 (by decide) (by decide), e 3 (by decide) (by decide)]
  refine ⟨hg.1, hg.2.1, hg.2.2.1, hg.2.2.2.1, h4, fun i hi => ?_, fun i hi => ?_⟩
  · rw [he (5 + i) (by omega) (by omega), e (5 + i) (by omega) (by omega), he (17 + i) (by omega) (by omega), e (17 + i) (by omega) (by omega), he (29 + i) (by omega) (by omega)]
    exact hg.2.2.2.2.2.1 i hi
  · rw [he (41 + i) (by omega) (by omega), e (41 + i) (by omega) (by omega), he (81 + i) (by omega) (by omega)]
    exact hg.2.2.2.2.2.2 i hi
theorem zG_addM {o f t : Int32} (hg : zG a) (h : gN a 4 < 120) : zG (addM a o f t) := by
  have e := gN_addM (a := a) (o := o) (f := f) (t := t) (by omega)
  exact zG_eq hg ⟨by rw [e, addM_at, if_pos rfl], by omega⟩ (fun i h1 h2 => addM_lo h2 h1)
/-- only the moves differ: nothing that places depend on -/
def zEqM (a b : Nat → Int32) : Prop := ∀ i, i < 121 → i ≠ 4 → b i = a i
theorem zEqM.rf : zEqM a a := fun _ _ _ => rfl
theorem zEqM.tr {b c : Nat → Int32} (h1 : zEqM a b) (h2 : zEqM b c) : zEqM a c := fun i g1 g2 => (h2 i g1 g2).trans (h1 i g1 g2)
theorem l_S_addMoves {o lost got : Int32} : ∀ (j i : Nat) (h : List zC) (a : Nat → Int32) (v5 v6 : Value), i + j = 3 → zG a → zSt h 1 a → (∀ h' : List zC, zFr (fun j => 1 ≤ j ∧ j ≤ 9) h h' → zSt h' 1 (amv o lost got j i a) → Q none (h', z)) →
    Ev 21 3 [.ref 1, .int o, .int lost, .int got, .int (nI i), v5, v6] [] (h, z) Q := by
  intro j
  induction j with
  | zero =>
    intro i h a v5 v6 hi hg hS hQ
    have hi : i = 3 := by omega
    subst hi
    have e3 : (3 : Int32) ≤ nI 3 := by decide
    simp only [e21_0, e21_1, e21_3, e21_5, e21_6, e21_9, e21_10, e21_12, e21_15, e21_17, e21_18, e21_20, e21_23, e21_25, e21_27, e21_29, e21_32, e21_34, e21_36, e21_39, e21_40, e21_43, e21_45, e21_48, e21_49, e21_50, e21_53, e21_54, e21_57, e21_58, e21_59, e21_60, e21_63, e21_64, e21_67, e21_69, e21_70, e21_71, e21_74, e21_75, e21_78, e21_80, e21_81, e21_82, e21_83, e21_86, e21_87, e21_88, e21_91, e21_94, e21_97, zgF, zgA, zgR, zisO, zpush, zopt_some, ↓reduceIte, List.getElem?_cons_succ, List.getElem?_cons_zero, beq_self_eq_true, true_and, and_true, Bool.true_and, Bool.and_true, Bool.false_and, Bool.and_false, nI_1, not_true_eq_false, not_false_eq_true, vp_narI, e3]
    exact hQ h zFr.rf hS
  | succ j ih =>
    intro i h a v5 v6 hi hg hS hQ
    have e3 : ¬ (3 : Int32) ≤ nI i := nI_ge (b := 3) (show i < 3 by omega) (by decide)
    obtain ⟨hm1, hm2⟩ := hg.2.2.2.2.1
    rw [amv] at hQ
    rw [e21_3]
    by_cases hst : (nthS lost i = -6 ∧ nthS got i = -6) ∨ 120 ≤ gN a 4
    · rw [if_pos hst] at hQ
      have hQ := hQ h zFr.rf hS
      simp only [e21_0, e21_1, e21_5, e21_6, e21_9, e21_10, e21_12, e21_15, e21_17, e21_18, e21_20, e21_23, e21_25, e21_27, e21_29, e21_32, e21_34, e21_36, e21_39, e21_40, e21_43, e21_45, e21_48, e21_49, e21_50, e21_53, e21_54, e21_57, e21_58, e21_59, e21_60, e21_63, e21_64, e21_67, e21_69, e21_70, e21_71, e21_74, e21_75, e21_78, e21_80, e21_81, e21_82, e21_83, e21_86, e21_87, e21_88, e21_91, e21_94, e21_97, zgF, zgA, zgR, zisO, zpush, zopt_some, ↓reduceIte, List.getElem?_cons_succ, List.getElem?_cons_zero, beq_self_eq_true, true_and, and_true, Bool.true_and, Bool.and_true, Bool.false_and, Bool.and_false, nI_1, not_true_eq_false, not_false_eq_true, vp_narI, e3, c_S_nthServer, hS.1]
      by_cases h1 : nthS lost i = -6
      · by_cases h2 : nthS got i = -6
        · simp only [h1, h2, zgF, zgA, zgR, zisO, zpush, zopt_some, ↓reduceIte, List.getElem?_cons_succ, List.getElem?_cons_zero, beq_self_eq_true, true_and, and_true, Bool.true_and, Bool.and_true, Bool.false_and, Bool.and_false, nI_1, not_true_eq_false, not_false_eq_true, vp_narI]
          exact hQ
        · have h3 : ¬ a 4 < 120 := by
            rw [hm1]
            rcases hst with hst | hst
            · exact absurd hst.2 h2
            · exact nI_nlt (b := 120) hst (by omega)
          simp only [h1, h2, h3, zgF, zgA, zgR, zisO, zpush, zopt_some, ↓reduceIte, List.getElem?_cons_succ, List.getElem?_cons_zero, beq_self_eq_true, true_and, and_true, Bool.true_and, Bool.and_true, Bool.false_and, Bool.and_false, nI_1, not_true_eq_false, not_false_eq_true, vp_narI]
          exact hQ
      · have h3 : ¬ a 4 < 120 := by
          rw [hm1]
          rcases hst with hst | hst
          · exact absurd hst.1 h1
          · exact nI_nlt (b := 120) hst (by omega)
        simp only [h1, h3, zgF, zgA, zgR, zisO, zpush, zopt_some, ↓reduceIte, List.getElem?_cons_succ, List.getElem?_cons_zero, beq_self_eq_true, true_and, and_true, Bool.true_and, Bool.and_true, Bool.false_and, Bool.and_false, nI_1, not_true_eq_false, not_false_eq_true, vp_narI]
        exact hQ
    · rw [if_neg hst] at hQ
      have hlt : gN a 4 < 120 := by
        rcases Nat.lt_or_ge (gN a 4) 120 with h | h
        · exact h
        · exact absurd (Or.inr h) hst
      have h3 : a 4 < 120 := by rw [hm1]; exact nI_lt (b := 120) hlt (by decide)
      have e1 : zinb (a 4) 120 = true := by rw [hm1]; exact zinb_nI hlt (by decide)
      have e2 : (a 4).toNatClampNeg = gN a 4 := rfl
      have hnn : ¬ (nthS lost i = -6 ∧ nthS got i = -6) := fun h => hst (Or.inl h)
      obtain ⟨s0, ⟨f1, g1, q1⟩, ⟨f2, g2, q2⟩, ⟨f3, g3, q3⟩, ⟨f4, g4, q4⟩, ⟨f5, g5, q5⟩, ⟨f6, g6, q6⟩, ⟨f7, g7, q7⟩, ⟨f8, g8, q8⟩⟩ := id hS
      have key : Ev 21 49 [.ref 1, .int o, .int lost, .int got, .int (nI i), .int (nthS lost i), .int (nthS got i)] [] (h, z) Q := by
        simp only [e21_0, e21_1, e21_5, e21_6, e21_9, e21_10, e21_12, e21_15, e21_17, e21_18, e21_20, e21_23, e21_25, e21_27, e21_29, e21_32, e21_34, e21_36, e21_39, e21_40, e21_43, e21_45, e21_48, e21_49, e21_50, e21_53, e21_54, e21_57, e21_58, e21_59, e21_60, e21_63, e21_64, e21_67, e21_69, e21_70, e21_71, e21_74, e21_75, e21_78, e21_80, e21_81, e21_82, e21_83, e21_86, e21_87, e21_88, e21_91, e21_94, e21_97, zgF, zgA, zgR, zisO, zpush, zopt_some, ↓reduceIte, List.getElem?_cons_succ, List.getElem?_cons_zero, beq_self_eq_true, true_and, and_true, Bool.true_and, Bool.and_true, Bool.false_and, Bool.and_false, nI_1, not_true_eq_false, not_false_eq_true, vp_narI, s0, g6, e1, e2]
        have k0 := zset_ne (k := 1 + 6) (c := zar .int 120 (upd f6 (gN a 4) o)) s0 (by omega)
        have k7 := zset_ne (k := 1 + 6) (c := zar .int 120 (upd f6 (gN a 4) o)) g7 (by omega)
        simp only [e21_0, e21_1, e21_5, e21_6, e21_9, e21_10, e21_12, e21_15, e21_17, e21_18, e21_20, e21_23, e21_25, e21_27, e21_29, e21_32, e21_34, e21_36, e21_39, e21_40, e21_43, e21_45, e21_48, e21_49, e21_50, e21_53, e21_54, e21_57, e21_58, e21_59, e21_60, e21_63, e21_64, e21_67, e21_69, e21_70, e21_71, e21_74, e21_75, e21_78, e21_80, e21_81, e21_82, e21_83, e21_86, e21_87, e21_88, e21_91, e21_94, e21_97, zgF, zgA, zgR, zisO, zpush, zopt_some, ↓reduceIte, List.getElem?_cons_succ, List.getElem?_cons_zero, beq_self_eq_true, true_and, and_true, Bool.true_and, Bool.and_true, Bool.false_and, Bool.and_false, nI_1, not_true_eq_false, not_false_eq_true, vp_narI, k0, k7, e1, e2]
        have m0 := zset_ne (k := 1 + 7) (c := zar .int 120 (upd f7 (gN a 4) (nthS lost i))) k0 (by omega)
        have m8 := zset_ne (k := 1 + 7) (c := zar .int 120 (upd f7 (gN a 4) (nthS lost i))) (zset_ne (k := 1 + 6) (c := zar .int 120 (upd f6 (gN a 4) o)) g8 (by omega)) (by omega)
        simp only [e21_0, e21_1, e21_5, e21_6, e21_9, e21_10, e21_12, e21_15, e21_17, e21_18, e21_20, e21_23, e21_25, e21_27, e21_29, e21_32, e21_34, e21_36, e21_39, e21_40, e21_43, e21_45, e21_48, e21_49, e21_50, e21_53, e21_54, e21_57, e21_58, e21_59, e21_60, e21_63, e21_64, e21_67, e21_69, e21_70, e21_71, e21_74, e21_75, e21_78, e21_80, e21_81, e21_82, e21_83, e21_86, e21_87, e21_88, e21_91, e21_94, e21_97, zgF, zgA, zgR, zisO, zpush, zopt_some, ↓reduceIte, List.getElem?_cons_succ, List.getElem?_cons_zero, beq_self_eq_true, true_and, and_true, Bool.true_and, Bool.and_true, Bool.false_and, Bool.and_false, nI_1, not_true_eq_false, not_false_eq_true, vp_narI, m0, m8, e1, e2]
        have p0 := zset_ne (k := 1 + 8) (c := zar .int 120 (upd f8 (gN a 4) (nthS got i))) m0 (by omega)
        simp only [e21_0, e21_1, e21_5, e21_6, e21_9, e21_10, e21_12, e21_15, e21_17, e21_18, e21_20, e21_23, e21_25, e21_27, e21_29, e21_32, e21_34, e21_36, e21_39, e21_40, e21_43, e21_45, e21_48, e21_49, e21_50, e21_53, e21_54, e21_57, e21_58, e21_59, e21_60, e21_63, e21_64, e21_67, e21_69, e21_70, e21_71, e21_74, e21_75, e21_78, e21_80, e21_81, e21_82, e21_83, e21_86, e21_87, e21_88, e21_91, e21_94, e21_97, zgF, zgA, zgR, zisO, zpush, zopt_some, ↓reduceIte, List.getElem?_cons_succ, List.getElem?_cons_zero, beq_self_eq_true, true_and, and_true, Bool.true_and, Bool.and_true, Bool.false_and, Bool.and_false, nI_1, not_true_eq_false, not_false_eq_true, vp_narI, p0, zpF, List.length_cons, List.length_nil]
        simp only [Nat.reduceAdd, Nat.reduceLT, and_self, e21_0, e21_1, e21_5, e21_6, e21_9, e21_10, e21_12, e21_15, e21_17, e21_18, e21_20, e21_23, e21_25, e21_27, e21_29, e21_32, e21_34, e21_36, e21_39, e21_40, e21_43, e21_45, e21_48, e21_49, e21_50, e21_53, e21_54, e21_57, e21_58, e21_59, e21_60, e21_63, e21_64, e21_67, e21_69, e21_70, e21_71, e21_74, e21_75, e21_78, e21_80, e21_81, e21_82, e21_83, e21_86, e21_87, e21_88, e21_91, e21_94, e21_97, zgF, zgA, zgR, zisO, zpush, zopt_some, ↓reduceIte, List.getElem?_cons_succ, List.getElem?_cons_zero, beq_self_eq_true, true_and, and_true, Bool.true_and, Bool.and_true, Bool.false_and, Bool.and_false, nI_1, not_true_eq_false, not_false_eq_true, vp_narI]
        have hg' := zG_addM (o := o) (f := nthS lost i) (t := nthS got i) hg hlt
        have hga : gN (addM a o (nthS lost i) (nthS got i)) 4 = gN a 4 + 1 := gN_addM (by omega)
        have hlo : ∀ q, q < 121 → q ≠ 4 → addM a o (nthS lost i) (nthS got i) q = a q := fun q h1 h2 => addM_lo h2 h1
        have W : ∀ {j : Nat} {c : zC}, h[j]? = some c → j ≠ 7 → j ≠ 8 → j ≠ 9 → j ≠ 1 → ((((h.set 7 (zar .int 120 (upd f6 (gN a 4) o))).set 8 (zar .int 120 (upd f7 (gN a 4) (nthS lost i)))).set 9 (zar .int 120 (upd f8 (gN a 4) (nthS got i)))).set 1 (zob 3 [.int (a 0), .int (a 1), .int (a 2), .ref 2, .ref 3, .ref 4, .int (a 3), .ref 5, .ref 6, .int (a 4 + 1), .ref 7, .ref 8, .ref 9]))[j]? = some c := fun e n1 n2 n3 n4 => zset_ne (zset_ne (zset_ne (zset_ne e n1.symm) n2.symm) n3.symm) n4.symm
        have e4 : addM a o (nthS lost i) (nthS got i) 4 = a 4 + 1 := by rw [addM_at, if_pos rfl, hm1, ← nI_1]
        have e2' : gN (addM a o (nthS lost i) (nthS got i)) 2 = gN a 2 := by unfold gN; rw [hlo 2 (by decide) (by decide)]
        have e3' : gN (addM a o (nthS lost i) (nthS got i)) 3 = gN a 3 := by unfold gN; rw [hlo 3 (by decide) (by decide)]
        have b2 := hg.2.2.1.2
        have b3 := hg.2.2.2.1.2
        refine ih (i + 1) _ (addM a o (nthS lost i) (nthS got i)) _ _ (by omega) hg' ?_ ?_
        · refine ⟨?_, ⟨f1, W g1 (by decide) (by decide) (by decide) (by decide), ?_⟩, ⟨f2, W g2 (by decide) (by decide) (by decide) (by decide), ?_⟩, ⟨f3, W g3 (by decide) (by decide) (by decide) (by decide), ?_⟩, ⟨f4, W g4 (by decide) (by decide) (by decide) (by decide), ?_⟩, ⟨f5, W g5 (by decide) (by decide) (by decide) (by decide), ?_⟩, ⟨upd f6 (gN a 4) o, ?_, ?_⟩, ⟨upd f7 (gN a 4) (nthS lost i), ?_, ?_⟩, ⟨upd f8 (gN a 4) (nthS got i), ?_, ?_⟩⟩
          · rw [hlo 0 (by decide) (by decide), hlo 1 (by decide) (by decide), hlo 2 (by decide) (by decide), hlo 3 (by decide) (by decide), e4]
            exact zset_self p0
          · intro j hj; rw [e2'] at hj; rw [hlo _ (by omega) (by omega)]; exact q1 j hj
          · intro j hj; rw [e2'] at hj; rw [hlo _ (by omega) (by omega)]; exact q2 j hj
          · intro j hj; rw [e2'] at hj; rw [hlo _ (by omega) (by omega)]; exact q3 j hj
          · intro j hj; rw [e3'] at hj; rw [hlo _ (by omega) (by omega)]; exact q4 j hj
          · intro j hj; rw [e3'] at hj; rw [hlo _ (by omega) (by omega)]; exact q5 j hj
          · exact zset_ne (zset_ne (zset_ne (zset_self g6) (by decide)) (by decide)) (by decide)
          · intro j hj; rw [hga] at hj; rw [addM_at]
            by_cases h9 : j = gN a 4
            · subst h9; rw [upd_s, if_neg (by omega), if_pos rfl]
            · rw [upd_n h9, if_neg (by omega), if_neg (by omega), if_neg (by omega), if_neg (by omega)]; exact q6 j (by omega)
          · exact zset_ne (zset_ne (zset_self (zset_ne g7 (by decide))) (by decide)) (by decide)
          · intro j hj; rw [hga] at hj; rw [addM_at]
            by_cases h9 : j = gN a 4
            · subst h9; rw [upd_s, if_neg (by omega), if_neg (by omega), if_pos rfl]
            · rw [upd_n h9, if_neg (by omega), if_neg (by omega), if_neg (by omega), if_neg (by omega)]; exact q7 j (by omega)
          · exact zset_ne (zset_self (zset_ne (zset_ne g8 (by decide)) (by decide))) (by decide)
          · intro j hj; rw [hga] at hj; rw [addM_at]
            by_cases h9 : j = gN a 4
            · subst h9; rw [upd_s, if_neg (by omega), if_neg (by omega), if_neg (by omega), if_pos rfl]
            · rw [upd_n h9, if_neg (by omega), if_neg (by omega), if_neg (by omega), if_neg (by omega)]; exact q8 j (by omega)
        · intro h' f hS'
          exact hQ h' (zFr.tr ((((zFr.set ⟨by omega, by omega⟩).tr (zFr.set ⟨by omega, by omega⟩)).tr (zFr.set ⟨by omega, by omega⟩)).tr (zFr.set ⟨by omega, by omega⟩)) f) hS'
      simp only [e21_5, e21_6, e21_9, e21_10, e21_12, e21_15, e21_17, e21_18, e21_20, e21_23, e21_25, e21_27, e21_29, e21_32, e21_34, e21_36, e21_39, e21_40, e21_43, e21_45, zgF, zgA, zgR, zisO, zpush, zopt_some, ↓reduceIte, List.getElem?_cons_succ, List.getElem?_cons_zero, beq_self_eq_true, true_and, and_true, Bool.true_and, Bool.and_true, Bool.false_and, Bool.and_false, nI_1, not_true_eq_false, not_false_eq_true, vp_narI, e3, c_S_nthServer, s0, h3]
      by_cases h1 : nthS lost i = -6
      · have h2 : ¬ nthS got i = -6 := fun h => hnn ⟨h1, h⟩
        simp only [h1, h2, zgF, zgA, zgR, zisO, zpush, zopt_some, ↓reduceIte, List.getElem?_cons_succ, List.getElem?_cons_zero, beq_self_eq_true, true_and, and_true, Bool.true_and, Bool.and_true, Bool.false_and, Bool.and_false, nI_1, not_true_eq_false, not_false_eq_true, vp_narI]
        rw [h1] at key
        exact key
      · simp only [h1, zgF, zgA, zgR, zisO, zpush, zopt_some, ↓reduceIte, List.getElem?_cons_succ, List.getElem?_cons_zero, beq_self_eq_true, true_and, and_true, Bool.true_and, Bool.and_true, Bool.false_and, Bool.and_false, nI_1, not_true_eq_false, not_false_eq_true, vp_narI]
        exact key
theorem c_S_addMoves {o lost got : Int32} (hg : zG a) (hS : zSt h 1 a) (hQ : ∀ h' : List zC, zFr (fun j => 1 ≤ j ∧ j ≤ 9) h h' → zSt h' 1 (amv o lost got 3 0 a) → Q none (h', z)) :
    Ev 21 0 [.ref 1, .int o, .int lost, .int got, zU, zU, zU] [] (h, z) Q := by
  have := l_S_addMoves (z := z) (Q := Q) (o := o) (lost := lost) (got := got) 3 0 h a zU zU (by omega) hg hS hQ
  simp only [e21_0, e21_1, e21_5, e21_6, e21_9, e21_10, e21_12, e21_15, e21_17, e21_18, e21_20, e21_23, e21_25, e21_27, e21_29, e21_32, e21_34, e21_36, e21_39, e21_40, e21_43, e21_45, e21_48, e21_49, e21_50, e21_53, e21_54, e21_57, e21_58, e21_59, e21_60, e21_63, e21_64, e21_67, e21_69, e21_70, e21_71, e21_74, e21_75, e21_78, e21_80, e21_81, e21_82, e21_83, e21_86, e21_87, e21_88, e21_91, e21_94, e21_97, zgF, zgA, zgR, zisO, zpush, zopt_some, ↓reduceIte, List.getElem?_cons_succ, List.getElem?_cons_zero, beq_self_eq_true, true_and, and_true, Bool.true_and, Bool.and_true, Bool.false_and, Bool.and_false, nI_1, not_true_eq_false, not_false_eq_true, vp_narI]
  exact this
end ZC
end
