/-! the law's loop -/
section
set_option maxRecDepth 100000
theorem nI_3 (a : Nat) : nI a + 3 = nI (a + 3) := by rw [show (3 : Int32) = nI 3 from rfl, nI_add]
theorem nI_s3 {a : Nat} (h : 3 ≤ a) : nI a - 3 = nI (a - 3) := by
  rw [show a = (a - 3) + 3 by omega, ← nI_3, Nat.add_sub_cancel]
  exact Int32.add_sub_cancel _ _
section ZC
variable {h : List zC} {z : Nat × (Nat × (Nat → Int32))} {Q : Option Value → zX → Prop} {i : Nat}
theorem s_any {w : Int32} (hJ : zJ h) (hi : i + 2 < z.2.1) (hL : z.2.1 < 2 ^ 31) (hQ : ∀ h' : List zC, h'.length = h.length → zJ h' → Ev 151 842 [zS, .ref 0, .ref 108, .int (nI i)] [] (h', z) Q) : Ev 151 32 [zS, .ref 0, .ref 108, .int (nI i)] [.int w] (h, z) Q := by
  rcases zsw (w := w) 23 (by decide) with ⟨k, hk, rfl⟩ | ho
  · rcases (show k = 0 ∨ k = 1 ∨ k = 2 ∨ k = 3 ∨ k = 4 ∨ k = 5 ∨ k = 6 ∨ k = 7 ∨ k = 8 ∨ k = 9 ∨ k = 10 ∨ k = 11 ∨ k = 12 ∨ k = 13 ∨ k = 14 ∨ k = 15 ∨ k = 16 ∨ k = 17 ∨ k = 18 ∨ k = 19 ∨ k = 20 ∨ k = 21 ∨ k = 22 ∨ k = 23 by omega) with rfl | rfl | rfl | rfl | rfl | rfl | rfl | rfl | rfl | rfl | rfl | rfl | rfl | rfl | rfl | rfl | rfl | rfl | rfl | rfl | rfl | rfl | rfl | rfl
    · rw [show nI 0 = (0 : Int32) from rfl, e151_32_c0]; exact s_set hJ hi hL hQ
    · rw [show nI 1 = (1 : Int32) from rfl, e151_32_c1]; exact s_server hJ hi hL hQ
    · rw [show nI 2 = (2 : Int32) from rfl, e151_32_c2]; exact s_weigh hJ hi hL hQ
    · rw [show nI 3 = (3 : Int32) from rfl, e151_32_c3]; exact s_toRack hJ hi hL hQ
    · rw [show nI 4 = (4 : Int32) from rfl, e151_32_c4]; exact s_down hJ hi hL hQ
    · rw [show nI 5 = (5 : Int32) from rfl, e151_32_c5]; exact s_store hJ hi hL hQ
    · rw [show nI 6 = (6 : Int32) from rfl, e151_32_c6]; exact s_drop hJ hi hL hQ
    · rw [show nI 7 = (7 : Int32) from rfl, e151_32_c7]; exact s_pin hJ hi hL hQ
    · rw [show nI 8 = (8 : Int32) from rfl, e151_32_c8]; exact s_ofServer hJ hi hL hQ
    · rw [show nI 9 = (9 : Int32) from rfl, e151_32_c9]; exact s_place hJ hi hL hQ
    · rw [show nI 10 = (10 : Int32) from rfl, e151_32_c10]; exact s_straw hJ hi hL hQ
    · rw [show nI 11 = (11 : Int32) from rfl, e151_32_c11]; exact s_move hJ hi hL hQ
    · rw [show nI 12 = (12 : Int32) from rfl, e151_32_c12]; exact s_object hJ hi hL hQ
    · rw [show nI 13 = (13 : Int32) from rfl, e151_32_c13]; exact s_count hJ hi hL hQ
    · rw [show nI 14 = (14 : Int32) from rfl, e151_32_c14]; exact s_movesIf hJ hi hL hQ
    · rw [show nI 15 = (15 : Int32) from rfl, e151_32_c15]; exact s_lostWith hJ hi hL hQ
    · rw [show nI 16 = (16 : Int32) from rfl, e151_32_c16]; exact s_bestWeight hJ hi hL hQ
    · rw [show nI 17 = (17 : Int32) from rfl, e151_32_c17]; exact s_put hJ hi hL hQ
    · rw [show nI 18 = (18 : Int32) from rfl, e151_32_c18]; exact s_wipe hJ hi hL hQ
    · rw [show nI 19 = (19 : Int32) from rfl, e151_32_c19]; exact s_fault hJ hi hL hQ
    · rw [show nI 20 = (20 : Int32) from rfl, e151_32_c20]; exact s_carryOut hJ hi hL hQ
    · rw [show nI 21 = (21 : Int32) from rfl, e151_32_c21]; exact s_undo hJ hi hL hQ
    · rw [show nI 22 = (22 : Int32) from rfl, e151_32_c22]; exact s_save hJ hi hL hQ
    · rw [show nI 23 = (23 : Int32) from rfl, e151_32_c23]; exact s_restore hJ hi hL hQ
  · rw [e151_32_d ho]
    exact hQ h rfl hJ
theorem l_law {len : Nat} (hL : z.2.1 < 2 ^ 31) (hQ : ∀ h' : List zC, h'.length = len → Q (some (.int 1)) (h', z)) : ∀ (j i : Nat) (h : List zC), i ≤ z.2.1 → z.2.1 < i + 3 * j → h.length = len → zJ h → Ev 151 18 [zS, .ref 0, .ref 108, .int (nI i)] [] (h, z) Q := by
  have key : ∀ (i : Nat) (h : List zC), i ≤ z.2.1 → h.length = len → (i + 2 < z.2.1 → Ev 151 26 [zS, .ref 0, .ref 108, .int (nI i)] [] (h, z) Q) → Ev 151 18 [zS, .ref 0, .ref 108, .int (nI i)] [] (h, z) Q := by
    intro i h hi hl hk
    have eL : Int32.ofNat z.2.1 = nI z.2.1 := rfl
    have done : Ev 151 848 [zS, .ref 0, .ref 108, .int (nI i)] [] (h, z) Q := by
      simp only [e151_848, e151_849, zpush, zopt_some, ↓reduceIte, List.getElem?_cons_succ, List.getElem?_cons_zero, beq_self_eq_true, true_and, and_true, Bool.true_and, Bool.and_true, Bool.false_and, Bool.and_false, nI_1, not_true_eq_false, not_false_eq_true, vp_narI, z1_and]
      exact hQ h hl
    by_cases h3 : i + 2 < z.2.1
    · have e1 : nI z.2.1 - 3 = nI (z.2.1 - 3) := nI_s3 (by omega)
      have e2 : ¬ nI (z.2.1 - 3) < nI i := nI_nlt (by omega) (by omega)
      simp only [e151_18, e151_19, e151_20, e151_21, e151_22, e151_23, zpush, zopt_some, ↓reduceIte, List.getElem?_cons_succ, List.getElem?_cons_zero, beq_self_eq_true, true_and, and_true, Bool.true_and, Bool.and_true, Bool.false_and, Bool.and_false, nI_1, not_true_eq_false, not_false_eq_true, vp_narI, eL, e1, e2]
      exact hk h3
    · have e2 : nI z.2.1 - 3 < nI i := by
        rcases Nat.lt_or_ge z.2.1 3 with h4 | h4
        · have : ∀ a, a < 3 → ∀ b, b ≤ a → nI a - 3 < nI b := by decide +kernel
          exact this _ h4 _ hi
        · rw [nI_s3 h4]; exact nI_lt (by omega) (by omega)
      simp only [e151_18, e151_19, e151_20, e151_21, e151_22, e151_23, zpush, zopt_some, ↓reduceIte, List.getElem?_cons_succ, List.getElem?_cons_zero, beq_self_eq_true, true_and, and_true, Bool.true_and, Bool.and_true, Bool.false_and, Bool.and_false, nI_1, not_true_eq_false, not_false_eq_true, vp_narI, eL, e2]
      exact done
  intro j
  induction j with
  | zero =>
    intro i h hi hj hl hJ
    omega
  | succ j ih =>
    intro i h hi hj hl hJ
    refine key i h hi hl (fun h3 => ?_)
    have e1 : zinb (nI i) z.2.1 = true := zinb_nI (by omega) hL
    have e2 : (nI i).toNatClampNeg = i := nI_clamp (by omega)
    simp only [e151_26, e151_27, e151_28, e151_29, e151_31, zpush, zopt_some, ↓reduceIte, List.getElem?_cons_succ, List.getElem?_cons_zero, beq_self_eq_true, true_and, and_true, Bool.true_and, Bool.and_true, Bool.false_and, Bool.and_false, nI_1, not_true_eq_false, not_false_eq_true, vp_narI, e1, e2]
    refine s_any hJ h3 hL (fun h' hl' hJ' => ?_)
    simp only [e151_842, e151_845, zpush, zopt_some, ↓reduceIte, List.getElem?_cons_succ, List.getElem?_cons_zero, beq_self_eq_true, true_and, and_true, Bool.true_and, Bool.and_true, Bool.false_and, Bool.and_false, nI_1, not_true_eq_false, not_false_eq_true, vp_narI, nI_3]
    exact ih (i + 3) h' (by omega) (by omega) (hl'.trans hl) hJ'
end ZC
end
