/-! the model's small methods -/
section
set_option maxRecDepth 100000
theorem lsub1 : ∀ n, n ≤ 120 → ((nI n).toInt64 - 1).toInt = (n : Int) - 1 := by decide +kernel
theorem zin_in {s : Int32} {H : Int64} {n : Nat} (hH : H.toInt = (n : Int) - 1) : (decide ((0 : Int64) ≤ s.toInt64) && decide (s.toInt64 ≤ H)) = zinb s n := by
  rw [Bool.eq_iff_iff, zinb_iff, vp_in_iff]
  simp only [Bool.and_eq_true, decide_eq_true_eq, Int64.le_iff_toInt_le, hH, Int32.toInt_toInt64]
  have : (0 : Int64).toInt = 0 := rfl
  omega
theorem znl_5' {v w y u : Value} {t : List Value} : znl (v :: w :: y :: u :: zU :: t) 5 = true := rfl
theorem znl_7 {a b c d e f : Value} {t : List Value} : znl (a :: b :: c :: d :: e :: f :: zU :: t) 7 = true := rfl
theorem L1000 : (1000 : Int64) = lN 1000 := rfl
theorem L7919 : (7919 : Int64) = lN 7919 := rfl
theorem L104729 : (104729 : Int64) = lN 104729 := rfl
theorem L1103515245 : (1103515245 : Int64) = lN 1103515245 := rfl
theorem L12345 : (12345 : Int64) = lN 12345 := rfl
theorem L2147483648 : (2147483648 : Int64) = lN 2147483648 := rfl
def bb (x i : Nat) : Int64 := if i = 0 then -1 else lN (lenA x i)
theorem bb_s (x i : Nat) : bb x (i + 1) = if lg_cmp (lN (stirN (x + 104729 * (i + 1)))) (bb x i) ≤ 0 then bb x i else lN (stirN (x + 104729 * (i + 1))) := by
  have h1 := stirN_lt (x + 104729 * (i + 1))
  have h2 := lenA_lt x i
  unfold bb
  rw [if_neg (by omega), lenA_s]
  by_cases h0 : i = 0
  · subst h0
    have : ¬ lg_cmp (lN (stirN (x + 104729 * (0 + 1)))) (-1) ≤ 0 := by
      rw [lg_cmp_le, Int64.le_iff_toInt_le, pk_lT (by omega)]
      show ¬ (_ : Int) ≤ -1
      omega
    rw [if_pos rfl, if_neg this, show lenA x 0 = 0 from rfl, Nat.zero_max]
  · rw [if_neg h0]
    have e : (lg_cmp (lN (stirN (x + 104729 * (i + 1)))) (lN (lenA x i)) ≤ 0) = (stirN (x + 104729 * (i + 1)) ≤ lenA x i) := propext ((lg_cmp_le _ _).trans (pk_lLE (by omega) (by omega)))
    simp only [e]
    by_cases h3 : stirN (x + 104729 * (i + 1)) ≤ lenA x i
    · rw [if_pos h3, Nat.max_eq_left h3]
    · rw [if_neg h3, Nat.max_eq_right (by omega)]
section ZC
variable {h : List zC} {z : Nat × (Nat × (Nat → Int32))} {M : Nat → Nat → Int32} {Q : Option Value → zX → Prop}
theorem c_M_in {x lo hi : Int64} {X : zX} : Ev 83 0 [.long x, zU, .long lo, zU, .long hi, zU] [] X Q = Q (some (.int (zb (decide (lo ≤ x) && decide (x ≤ hi))))) X := by
  by_cases h1 : x < lo
  · have e1 : lg_cmp x lo < 0 := (lg_cmp_lt _ _).mpr h1
    have e2 : ¬ lo ≤ x := Int64.not_le.mpr h1
    simp only [e83_0, e83_1, e83_2, e83_3, e83_6, e83_7, e83_9, e83_10, e83_13, e83_14, e83_17, e83_18, zpush, zopt_some, ↓reduceIte, List.getElem?_cons_succ, List.getElem?_cons_zero, beq_self_eq_true, true_and, and_true, Bool.true_and, Bool.and_true, Bool.false_and, Bool.and_false, nI_1, not_true_eq_false, not_false_eq_true, vp_narI, e1, e2, decide_false, zb_f, z0_and]
  · have e1 : ¬ lg_cmp x lo < 0 := fun h => h1 ((lg_cmp_lt _ _).mp h)
    have e2 : lo ≤ x := Int64.not_lt.mp h1
    by_cases h3 : hi < x
    · have e3 : 0 < lg_cmp x hi := (lg_cmp_gt _ _).mpr h3
      have e4 : ¬ x ≤ hi := Int64.not_le.mpr h3
      simp only [e83_0, e83_1, e83_2, e83_3, e83_6, e83_7, e83_9, e83_10, e83_13, e83_14, e83_17, e83_18, zpush, zopt_some, ↓reduceIte, List.getElem?_cons_succ, List.getElem?_cons_zero, beq_self_eq_true, true_and, and_true, Bool.true_and, Bool.and_true, Bool.false_and, Bool.and_false, nI_1, not_true_eq_false, not_false_eq_true, vp_narI, e1, e2, e3, e4, decide_true, decide_false, zb_f, z0_and]
    · have e3 : ¬ 0 < lg_cmp x hi := fun h => h3 ((lg_cmp_gt _ _).mp h)
      have e4 : x ≤ hi := Int64.not_lt.mp h3
      simp only [e83_0, e83_1, e83_2, e83_3, e83_6, e83_7, e83_9, e83_10, e83_13, e83_14, e83_17, e83_18, zpush, zopt_some, ↓reduceIte, List.getElem?_cons_succ, List.getElem?_cons_zero, beq_self_eq_true, true_and, and_true, Bool.true_and, Bool.and_true, Bool.false_and, Bool.and_false, nI_1, not_true_eq_false, not_false_eq_true, vp_narI, e1, e2, e3, e4, decide_true, zb_t, z1_and]
theorem c_M_isServer {s : Int32} (hM : zMM h M) (hg : zG (M 0)) : Ev 87 0 [.ref 108, .int s] [] (h, z) Q = Q (some (.int (zb (zinb s (gN (M 0) 2))))) (h, z) := by
  obtain ⟨o0, fd0, fd1, fd2, fd3, fd4, fd5, fd6, fd7, fd8, fd9, fd10, fd11, fd12, fd13, fd14, fd15, fd16, fd17, fd18, fd19, fd20, a0, a1, a2, a4, a5, a6, a7, a9, a10, a11, a14⟩ := hM.q
  obtain ⟨h2, h12⟩ := hg.2.2.1
  have e := zin_in (s := s) (lsub1 (gN (M 0) 2) (by omega))
  rw [← h2] at e
  simp only [e87_0, e87_1, e87_2, e87_3, e87_4, e87_7, e87_8, e87_9, e87_10, e87_11, e87_12, e87_15, zpush, zopt_some, ↓reduceIte, List.getElem?_cons_succ, List.getElem?_cons_zero, beq_self_eq_true, true_and, and_true, Bool.true_and, Bool.and_true, Bool.false_and, Bool.and_false, nI_1, not_true_eq_false, not_false_eq_true, vp_narI, k5, k17, k29, k41, k81, k121, j484_0, cl_0, j484_1, cl_1, j484_2, cl_2, j484_3, cl_3, j484_4, cl_4, o0, ↓fd0, ↓fd1, ↓fd2, ↓fd3, ↓fd4, ↓fd5, ↓fd6, ↓fd7, ↓fd8, ↓fd9, ↓fd10, ↓fd11, ↓fd12, ↓fd13, ↓fd14, ↓fd15, ↓fd16, ↓fd17, ↓fd18, ↓fd19, ↓fd20, ↓a0, c_M_in, e, zb_and1]
theorem c_M_isRack {s : Int32} {X : zX} : Ev 88 0 [.int s] [] X Q = Q (some (.int (zb (zinb s 6)))) X := by
  have e := zin_in (s := s) (H := 5) (n := 6) rfl
  simp only [e88_0, e88_1, e88_2, e88_3, e88_6, e88_9, zpush, zopt_some, ↓reduceIte, List.getElem?_cons_succ, List.getElem?_cons_zero, beq_self_eq_true, true_and, and_true, Bool.true_and, Bool.and_true, Bool.false_and, Bool.and_false, nI_1, not_true_eq_false, not_false_eq_true, vp_narI, c_M_in, e, zb_and1]
theorem c_M_isWeight {s : Int32} {X : zX} : Ev 89 0 [.int s] [] X Q = Q (some (.int (zb (zinb s 17)))) X := by
  have e := zin_in (s := s) (H := 16) (n := 17) rfl
  simp only [e89_0, e89_1, e89_2, e89_3, e89_6, e89_9, zpush, zopt_some, ↓reduceIte, List.getElem?_cons_succ, List.getElem?_cons_zero, beq_self_eq_true, true_and, and_true, Bool.true_and, Bool.and_true, Bool.false_and, Bool.and_false, nI_1, not_true_eq_false, not_false_eq_true, vp_narI, c_M_in, e, zb_and1]
theorem c_M_isObject {s : Int32} {X : zX} : Ev 90 0 [.int s] [] X Q = Q (some (.int (zb (zinb s 10000)))) X := by
  have e := zin_in (s := s) (H := 9999) (n := 10000) rfl
  simp only [e90_0, e90_1, e90_2, e90_3, e90_6, e90_9, zpush, zopt_some, ↓reduceIte, List.getElem?_cons_succ, List.getElem?_cons_zero, beq_self_eq_true, true_and, and_true, Bool.true_and, Bool.and_true, Bool.false_and, Bool.and_false, nI_1, not_true_eq_false, not_false_eq_true, vp_narI, c_M_in, e, zb_and1]
theorem c_M_takesPart {s : Nat} (hM : zMM h M) (hs : s < 12) : Ev 91 0 [.ref 108, .int (nI s)] [] (h, z) Q = Q (some (.int (zb (tp (M 0) s)))) (h, z) := by
  obtain ⟨o0, fd0, fd1, fd2, fd3, fd4, fd5, fd6, fd7, fd8, fd9, fd10, fd11, fd12, fd13, fd14, fd15, fd16, fd17, fd18, fd19, fd20, a0, a1, a2, a4, a5, a6, a7, a9, a10, a11, a14⟩ := hM.q
  have e1 : zinb (nI (29 + s)) 484 = true := zinb_nI (by omega) (by decide)
  have e2 : (nI (29 + s)).toNatClampNeg = 29 + s := nI_clamp (by omega)
  have e3 : zinb (nI (17 + s)) 484 = true := zinb_nI (by omega) (by decide)
  have e4 : (nI (17 + s)).toNatClampNeg = 17 + s := nI_clamp (by omega)
  unfold tp
  by_cases h5 : M 0 (29 + s) = 0
  · by_cases h6 : M 0 (17 + s) ≤ 0
    · have : ¬ 0 < M 0 (17 + s) := Int32.not_lt.mpr h6
      simp only [e91_0, e91_1, e91_4, e91_6, e91_7, e91_8, e91_9, e91_12, e91_13, e91_16, e91_18, e91_19, e91_20, e91_21, e91_24, e91_25, e91_28, e91_29, zpush, zopt_some, ↓reduceIte, List.getElem?_cons_succ, List.getElem?_cons_zero, beq_self_eq_true, true_and, and_true, Bool.true_and, Bool.and_true, Bool.false_and, Bool.and_false, nI_1, not_true_eq_false, not_false_eq_true, vp_narI, k5, k17, k29, k41, k81, k121, j484_0, cl_0, j484_1, cl_1, j484_2, cl_2, j484_3, cl_3, j484_4, cl_4, o0, ↓fd0, ↓fd1, ↓fd2, ↓fd3, ↓fd4, ↓fd5, ↓fd6, ↓fd7, ↓fd8, ↓fd9, ↓fd10, ↓fd11, ↓fd12, ↓fd13, ↓fd14, ↓fd15, ↓fd16, ↓fd17, ↓fd18, ↓fd19, ↓fd20, ↓a0, e1, e2, e3, e4, h5, h6, this, decide_true, decide_false, zb_f, z0_and]
    · have : 0 < M 0 (17 + s) := Int32.not_le.mp h6
      simp only [e91_0, e91_1, e91_4, e91_6, e91_7, e91_8, e91_9, e91_12, e91_13, e91_16, e91_18, e91_19, e91_20, e91_21, e91_24, e91_25, e91_28, e91_29, zpush, zopt_some, ↓reduceIte, List.getElem?_cons_succ, List.getElem?_cons_zero, beq_self_eq_true, true_and, and_true, Bool.true_and, Bool.and_true, Bool.false_and, Bool.and_false, nI_1, not_true_eq_false, not_false_eq_true, vp_narI, k5, k17, k29, k41, k81, k121, j484_0, cl_0, j484_1, cl_1, j484_2, cl_2, j484_3, cl_3, j484_4, cl_4, o0, ↓fd0, ↓fd1, ↓fd2, ↓fd3, ↓fd4, ↓fd5, ↓fd6, ↓fd7, ↓fd8, ↓fd9, ↓fd10, ↓fd11, ↓fd12, ↓fd13, ↓fd14, ↓fd15, ↓fd16, ↓fd17, ↓fd18, ↓fd19, ↓fd20, ↓a0, e1, e2, e3, e4, h5, h6, this, decide_true, zb_t, z1_and]
  · simp only [e91_0, e91_1, e91_4, e91_6, e91_7, e91_8, e91_9, e91_12, e91_13, e91_16, e91_18, e91_19, e91_20, e91_21, e91_24, e91_25, e91_28, e91_29, zpush, zopt_some, ↓reduceIte, List.getElem?_cons_succ, List.getElem?_cons_zero, beq_self_eq_true, true_and, and_true, Bool.true_and, Bool.and_true, Bool.false_and, Bool.and_false, nI_1, not_true_eq_false, not_false_eq_true, vp_narI, k5, k17, k29, k41, k81, k121, j484_0, cl_0, j484_1, cl_1, j484_2, cl_2, j484_3, cl_3, j484_4, cl_4, o0, ↓fd0, ↓fd1, ↓fd2, ↓fd3, ↓fd4, ↓fd5, ↓fd6, ↓fd7, ↓fd8, ↓fd9, ↓fd10, ↓fd11, ↓fd12, ↓fd13, ↓fd14, ↓fd15, ↓fd16, ↓fd17, ↓fd18, ↓fd19, ↓fd20, ↓a0, e1, e2, e3, e4, h5, not_false_eq_true, decide_false, zb_f, z0_and]
theorem c_M_stir {x : Nat} {X : zX} (hx : x < 2 ^ 32) : Ev 92 0 [.long (lN x), zU] [] X Q = Q (some (.long (lN (stirN x)))) X := by
  have e1 : lN (x * 1103515245 + 12345) - lN (x * 1103515245 + 12345) / lN 2147483648 * lN 2147483648 = lN (stirN x) := pk_lRem (by omega) (by decide) (by decide)
  have e2 : ¬ lN 2147483648 = 0 := by decide
  simp only [e92_0, e92_1, e92_4, e92_5, e92_8, e92_9, e92_12, e92_13, zpush, zopt_some, ↓reduceIte, List.getElem?_cons_succ, List.getElem?_cons_zero, beq_self_eq_true, true_and, and_true, Bool.true_and, Bool.and_true, Bool.false_and, Bool.and_false, nI_1, not_true_eq_false, not_false_eq_true, vp_narI, L1103515245, L12345, L2147483648, lN_mul, lN_add, e1, e2, not_false_eq_true]
theorem l_M_strawOf {s o x w : Nat} (hM : zMM h M) (hg : zG (M 0)) (hs : s < gN (M 0) 2) (hw : gN (M 0) (17 + s) = w) (hx : x < 2 ^ 31 + 7919 * 13) : ∀ (j i : Nat) (v8 v9 : Value), i + j = w → Ev 93 38 [.ref 108, .int (nI s), .int (nI o), .long (lN x), zU, .long (bb x i), zU, .int (nI i), v8, v9] [] (h, z) Q = Q (some (.int (bb x w).toInt32)) (h, z) := by
  obtain ⟨o0, fd0, fd1, fd2, fd3, fd4, fd5, fd6, fd7, fd8, fd9, fd10, fd11, fd12, fd13, fd14, fd15, fd16, fd17, fd18, fd19, fd20, a0, a1, a2, a4, a5, a6, a7, a9, a10, a11, a14⟩ := hM.q
  have b2 := hg.2.2.1.2
  obtain ⟨w1, w2, -⟩ := zG_w hg hs
  rw [hw] at w1 w2
  have e3 : zinb (nI (17 + s)) 484 = true := zinb_nI (by omega) (by decide)
  have e4 : (nI (17 + s)).toNatClampNeg = 17 + s := nI_clamp (by omega)
  intro j
  induction j with
  | zero =>
    intro i v8 v9 hi
    have hi : i = w := by omega
    subst hi
    have e1 : nI i ≤ nI i := Int32.le_refl _
    rw [e93_38]
    simp only [e93_0, e93_3, e93_4, e93_5, e93_6, e93_7, e93_10, e93_11, e93_12, e93_13, e93_14, e93_17, e93_20, e93_21, e93_22, e93_23, e93_24, e93_25, e93_26, e93_29, e93_30, e93_35, e93_40, e93_41, e93_44, e93_46, e93_47, e93_48, e93_49, e93_52, e93_53, e93_56, e93_58, e93_59, e93_60, e93_61, e93_62, e93_63, e93_66, e93_68, e93_70, e93_72, e93_73, e93_76, e93_78, e93_81, e93_88, e93_91, e93_93, e93_94, e93_33 znl_5', e93_36 znl_7, e93_83 znl_5', e93_85 znl_7, zpush, zopt_some, ↓reduceIte, List.getElem?_cons_succ, List.getElem?_cons_zero, beq_self_eq_true, true_and, and_true, Bool.true_and, Bool.and_true, Bool.false_and, Bool.and_false, nI_1, not_true_eq_false, not_false_eq_true, vp_narI, k5, k17, k29, k41, k81, k121, j484_0, cl_0, j484_1, cl_1, j484_2, cl_2, j484_3, cl_3, j484_4, cl_4, o0, ↓fd0, ↓fd1, ↓fd2, ↓fd3, ↓fd4, ↓fd5, ↓fd6, ↓fd7, ↓fd8, ↓fd9, ↓fd10, ↓fd11, ↓fd12, ↓fd13, ↓fd14, ↓fd15, ↓fd16, ↓fd17, ↓fd18, ↓fd19, ↓fd20, ↓a0, e1, e3, e4, w1]
  | succ j ih =>
    intro i v8 v9 hi
    have e1 : ¬ nI w ≤ nI i := nI_ge (by omega) (by omega)
    have e5 : (nI (i + 1)).toInt64 = lN (i + 1) := nI_l (by omega)
    have e6 := fun (X : zX) (Q : Option Value → zX → Prop) => c_M_stir (x := x + 104729 * (i + 1)) (X := X) (Q := Q) (by omega)
    rw [e93_38]
    have ih := ih (i + 1) (.long (lN (stirN (x + 104729 * (i + 1))))) zU (by omega)
    rw [bb_s] at ih
    rw [← ih]
    simp only [e93_0, e93_3, e93_4, e93_5, e93_6, e93_7, e93_10, e93_11, e93_12, e93_13, e93_14, e93_17, e93_20, e93_21, e93_22, e93_23, e93_24, e93_25, e93_26, e93_29, e93_30, e93_35, e93_40, e93_41, e93_44, e93_46, e93_47, e93_48, e93_49, e93_52, e93_53, e93_56, e93_58, e93_59, e93_60, e93_61, e93_62, e93_63, e93_66, e93_68, e93_70, e93_72, e93_73, e93_76, e93_78, e93_81, e93_88, e93_91, e93_93, e93_94, e93_33 znl_5', e93_36 znl_7, e93_83 znl_5', e93_85 znl_7, zpush, zopt_some, ↓reduceIte, List.getElem?_cons_succ, List.getElem?_cons_zero, beq_self_eq_true, true_and, and_true, Bool.true_and, Bool.and_true, Bool.false_and, Bool.and_false, nI_1, not_true_eq_false, not_false_eq_true, vp_narI, k5, k17, k29, k41, k81, k121, j484_0, cl_0, j484_1, cl_1, j484_2, cl_2, j484_3, cl_3, j484_4, cl_4, o0, ↓fd0, ↓fd1, ↓fd2, ↓fd3, ↓fd4, ↓fd5, ↓fd6, ↓fd7, ↓fd8, ↓fd9, ↓fd10, ↓fd11, ↓fd12, ↓fd13, ↓fd14, ↓fd15, ↓fd16, ↓fd17, ↓fd18, ↓fd19, ↓fd20, ↓a0, e1, e3, e4, w1, e5, L104729, lN_mul, lN_add, e6]
    split
    · simp only [e93_0, e93_3, e93_4, e93_5, e93_6, e93_7, e93_10, e93_11, e93_12, e93_13, e93_14, e93_17, e93_20, e93_21, e93_22, e93_23, e93_24, e93_25, e93_26, e93_29, e93_30, e93_35, e93_40, e93_41, e93_44, e93_46, e93_47, e93_48, e93_49, e93_52, e93_53, e93_56, e93_58, e93_59, e93_60, e93_61, e93_62, e93_63, e93_66, e93_68, e93_70, e93_72, e93_73, e93_76, e93_78, e93_81, e93_88, e93_91, e93_93, e93_94, e93_33 znl_5', e93_36 znl_7, e93_83 znl_5', e93_85 znl_7, zpush, zopt_some, ↓reduceIte, List.getElem?_cons_succ, List.getElem?_cons_zero, beq_self_eq_true, true_and, and_true, Bool.true_and, Bool.and_true, Bool.false_and, Bool.and_false, nI_1, not_true_eq_false, not_false_eq_true, vp_narI]
    · simp only [e93_0, e93_3, e93_4, e93_5, e93_6, e93_7, e93_10, e93_11, e93_12, e93_13, e93_14, e93_17, e93_20, e93_21, e93_22, e93_23, e93_24, e93_25, e93_26, e93_29, e93_30, e93_35, e93_40, e93_41, e93_44, e93_46, e93_47, e93_48, e93_49, e93_52, e93_53, e93_56, e93_58, e93_59, e93_60, e93_61, e93_62, e93_63, e93_66, e93_68, e93_70, e93_72, e93_73, e93_76, e93_78, e93_81, e93_88, e93_91, e93_93, e93_94, e93_33 znl_5', e93_36 znl_7, e93_83 znl_5', e93_85 znl_7, zpush, zopt_some, ↓reduceIte, List.getElem?_cons_succ, List.getElem?_cons_zero, beq_self_eq_true, true_and, and_true, Bool.true_and, Bool.and_true, Bool.false_and, Bool.and_false, nI_1, not_true_eq_false, not_false_eq_true, vp_narI]
theorem c_M_strawOf {s o : Nat} (hM : zMM h M) (hg : zG (M 0)) (hs : s < gN (M 0) 2) (ht : tp (M 0) s = true) (ho : o ≤ 9999) : Ev 93 0 [.ref 108, .int (nI s), .int (nI o), zU, zU, zU, zU, zU, zU, zU] [] (h, z) Q = Q (some (.int (nI (lenS (M 0) s o)))) (h, z) := by
  obtain ⟨o0, fd0, fd1, fd2, fd3, fd4, fd5, fd6, fd7, fd8, fd9, fd10, fd11, fd12, fd13, fd14, fd15, fd16, fd17, fd18, fd19, fd20, a0, a1, a2, a4, a5, a6, a7, a9, a10, a11, a14⟩ := hM.q
  have b2 := hg.2.2.1.2
  obtain ⟨q1, q2⟩ := hg.2.1
  obtain ⟨w1, w2, w3⟩ := zG_w hg hs
  have w3 := w3 ht
  have t1 := stirN_lt (1000 * o + gN (M 0) 1)
  have t2 := stirN_lt (stirN (1000 * o + gN (M 0) 1) + 7919 * (s + 1))
  have e1 : (M 0 1).toInt64 = lN (gN (M 0) 1) := by rw [q1]; exact nI_l (by omega)
  have e2 : (nI o).toInt64 = lN o := nI_l (by omega)
  have e3 : (nI (s + 1)).toInt64 = lN (s + 1) := nI_l (by omega)
  have e4 := fun (X : zX) (Q : Option Value → zX → Prop) => c_M_stir (x := 1000 * o + gN (M 0) 1) (X := X) (Q := Q) (by omega)
  have e5 := fun (X : zX) (Q : Option Value → zX → Prop) => c_M_stir (x := stirN (1000 * o + gN (M 0) 1) + 7919 * (s + 1)) (X := X) (Q := Q) (by omega)
  have l := l_M_strawOf (z := z) (Q := Q) (o := o) (x := stirN (stirN (1000 * o + gN (M 0) 1) + 7919 * (s + 1))) hM hg hs rfl (by omega) (gN (M 0) (17 + s)) 0 zU zU (by omega)
  have e6 : (bb (stirN (stirN (1000 * o + gN (M 0) 1) + 7919 * (s + 1))) (gN (M 0) (17 + s))).toInt32 = nI (lenS (M 0) s o) := by
    unfold bb
    rw [if_neg (by omega), lN_i]
    rfl
  rw [e6] at l
  rw [← l]
  simp only [e93_0, e93_3, e93_4, e93_5, e93_6, e93_7, e93_10, e93_11, e93_12, e93_13, e93_14, e93_17, e93_20, e93_21, e93_22, e93_23, e93_24, e93_25, e93_26, e93_29, e93_30, e93_35, e93_40, e93_41, e93_44, e93_46, e93_47, e93_48, e93_49, e93_52, e93_53, e93_56, e93_58, e93_59, e93_60, e93_61, e93_62, e93_63, e93_66, e93_68, e93_70, e93_72, e93_73, e93_76, e93_78, e93_81, e93_88, e93_91, e93_93, e93_94, e93_33 znl_5', e93_36 znl_7, e93_83 znl_5', e93_85 znl_7, zpush, zopt_some, ↓reduceIte, List.getElem?_cons_succ, List.getElem?_cons_zero, beq_self_eq_true, true_and, and_true, Bool.true_and, Bool.and_true, Bool.false_and, Bool.and_false, nI_1, not_true_eq_false, not_false_eq_true, vp_narI, k5, k17, k29, k41, k81, k121, j484_0, cl_0, j484_1, cl_1, j484_2, cl_2, j484_3, cl_3, j484_4, cl_4, o0, ↓fd0, ↓fd1, ↓fd2, ↓fd3, ↓fd4, ↓fd5, ↓fd6, ↓fd7, ↓fd8, ↓fd9, ↓fd10, ↓fd11, ↓fd12, ↓fd13, ↓fd14, ↓fd15, ↓fd16, ↓fd17, ↓fd18, ↓fd19, ↓fd20, ↓a0, e1, e2, e3, e4, e5, L1000, L7919, lN_mul, lN_add]
  rfl
theorem l_M_placeOf {o : Int32} (hM : zMM h M) (hg : zG (M 0)) : ∀ j i : Nat, i + j = gN (M 0) 3 → Ev 94 2 [.ref 108, .int o, .int (nI i)] [] (h, z) Q = Q (some (.int (fndF (fun i => M 0 (41 + i) == o) j i))) (h, z) := by
  obtain ⟨o0, fd0, fd1, fd2, fd3, fd4, fd5, fd6, fd7, fd8, fd9, fd10, fd11, fd12, fd13, fd14, fd15, fd16, fd17, fd18, fd19, fd20, a0, a1, a2, a4, a5, a6, a7, a9, a10, a11, a14⟩ := hM.q
  obtain ⟨h3, b3⟩ := hg.2.2.2.1
  intro j
  induction j with
  | zero =>
    intro i hi
    have hi : i = gN (M 0) 3 := by omega
    subst hi
    have e1 : M 0 3 ≤ nI (gN (M 0) 3) := by rw [← h3]; exact Int32.le_refl _
    rw [e94_2]
    simp only [e94_0, e94_1, e94_3, e94_4, e94_7, e94_8, e94_9, e94_12, e94_13, e94_16, e94_18, e94_19, e94_20, e94_21, e94_22, e94_25, e94_26, e94_27, e94_30, e94_33, e94_35, zpush, zopt_some, ↓reduceIte, List.getElem?_cons_succ, List.getElem?_cons_zero, beq_self_eq_true, true_and, and_true, Bool.true_and, Bool.and_true, Bool.false_and, Bool.and_false, nI_1, not_true_eq_false, not_false_eq_true, vp_narI, k5, k17, k29, k41, k81, k121, j484_0, cl_0, j484_1, cl_1, j484_2, cl_2, j484_3, cl_3, j484_4, cl_4, o0, ↓fd0, ↓fd1, ↓fd2, ↓fd3, ↓fd4, ↓fd5, ↓fd6, ↓fd7, ↓fd8, ↓fd9, ↓fd10, ↓fd11, ↓fd12, ↓fd13, ↓fd14, ↓fd15, ↓fd16, ↓fd17, ↓fd18, ↓fd19, ↓fd20, ↓a0, e1]
    rfl
  | succ j ih =>
    intro i hi
    have hlt : i < gN (M 0) 3 := by omega
    have e1 : ¬ M 0 3 ≤ nI i := by rw [h3]; exact nI_ge hlt (by omega)
    have e3 : zinb (nI (41 + i)) 484 = true := zinb_nI (by omega) (by decide)
    have e4 : (nI (41 + i)).toNatClampNeg = 41 + i := nI_clamp (by omega)
    have ih := ih (i + 1) (by omega)
    rw [e94_2]
    simp only [e94_0, e94_1, e94_3, e94_4, e94_7, e94_8, e94_9, e94_12, e94_13, e94_16, e94_18, e94_19, e94_20, e94_21, e94_22, e94_25, e94_26, e94_27, e94_30, e94_33, e94_35, zpush, zopt_some, ↓reduceIte, List.getElem?_cons_succ, List.getElem?_cons_zero, beq_self_eq_true, true_and, and_true, Bool.true_and, Bool.and_true, Bool.false_and, Bool.and_false, nI_1, not_true_eq_false, not_false_eq_true, vp_narI, k5, k17, k29, k41, k81, k121, j484_0, cl_0, j484_1, cl_1, j484_2, cl_2, j484_3, cl_3, j484_4, cl_4, o0, ↓fd0, ↓fd1, ↓fd2, ↓fd3, ↓fd4, ↓fd5, ↓fd6, ↓fd7, ↓fd8, ↓fd9, ↓fd10, ↓fd11, ↓fd12, ↓fd13, ↓fd14, ↓fd15, ↓fd16, ↓fd17, ↓fd18, ↓fd19, ↓fd20, ↓a0, e1, e3, e4, fndF, beq_iff_eq]
    by_cases h5 : M 0 (41 + i) = o
    · simp only [h5, not_true_eq_false, if_true, if_false]
    · simp only [h5, not_false_eq_true, if_true, if_false]
      exact ih
theorem c_M_placeOf {o : Int32} (hM : zMM h M) (hg : zG (M 0)) : Ev 94 0 [.ref 108, .int o, zU] [] (h, z) Q = Q (some (.int (fnd (M 0) o))) (h, z) := by
  refine Eq.trans ?_ (l_M_placeOf hM hg (gN (M 0) 3) 0 (by omega))
  simp only [e94_0, e94_1, e94_3, e94_4, e94_7, e94_8, e94_9, e94_12, e94_13, e94_16, e94_18, e94_19, e94_20, e94_21, e94_22, e94_25, e94_26, e94_27, e94_30, e94_33, e94_35, zpush, zopt_some, ↓reduceIte, List.getElem?_cons_succ, List.getElem?_cons_zero, beq_self_eq_true, true_and, and_true, Bool.true_and, Bool.and_true, Bool.false_and, Bool.and_false, nI_1, not_true_eq_false, not_false_eq_true, vp_narI]
  rfl
theorem l_M_weights (hM : zMM h M) (hg : zG (M 0)) : ∀ j i : Nat, i + j = gN (M 0) 2 → Ev 119 4 [.ref 108, .int (wsum (M 0) i), .int (nI i)] [] (h, z) Q = Q (some (.int (wsum (M 0) (gN (M 0) 2)))) (h, z) := by
  obtain ⟨o0, fd0, fd1, fd2, fd3, fd4, fd5, fd6, fd7, fd8, fd9, fd10, fd11, fd12, fd13, fd14, fd15, fd16, fd17, fd18, fd19, fd20, a0, a1, a2, a4, a5, a6, a7, a9, a10, a11, a14⟩ := hM.q
  obtain ⟨h2, b2⟩ := hg.2.2.1
  intro j
  induction j with
  | zero =>
    intro i hi
    have hi : i = gN (M 0) 2 := by omega
    subst hi
    have e1 : M 0 2 ≤ nI (gN (M 0) 2) := by rw [← h2]; exact Int32.le_refl _
    rw [e119_4]
    simp only [e119_0, e119_1, e119_2, e119_3, e119_5, e119_6, e119_9, e119_10, e119_11, e119_14, e119_15, e119_16, e119_17, e119_20, e119_23, e119_24, e119_27, e119_29, e119_30, e119_31, e119_32, e119_35, e119_36, e119_37, e119_38, e119_41, e119_44, e119_45, zpush, zopt_some, ↓reduceIte, List.getElem?_cons_succ, List.getElem?_cons_zero, beq_self_eq_true, true_and, and_true, Bool.true_and, Bool.and_true, Bool.false_and, Bool.and_false, nI_1, not_true_eq_false, not_false_eq_true, vp_narI, k5, k17, k29, k41, k81, k121, j484_0, cl_0, j484_1, cl_1, j484_2, cl_2, j484_3, cl_3, j484_4, cl_4, o0, ↓fd0, ↓fd1, ↓fd2, ↓fd3, ↓fd4, ↓fd5, ↓fd6, ↓fd7, ↓fd8, ↓fd9, ↓fd10, ↓fd11, ↓fd12, ↓fd13, ↓fd14, ↓fd15, ↓fd16, ↓fd17, ↓fd18, ↓fd19, ↓fd20, ↓a0, e1]
  | succ j ih =>
    intro i hi
    have hlt : i < gN (M 0) 2 := by omega
    have e1 : ¬ M 0 2 ≤ nI i := by rw [h2]; exact nI_ge hlt (by omega)
    have e3 : zinb (nI (17 + i)) 484 = true := zinb_nI (by omega) (by decide)
    have e4 : (nI (17 + i)).toNatClampNeg = 17 + i := nI_clamp (by omega)
    have hT := fun (Q : Option Value → zX → Prop) => c_M_takesPart (s := i) (z := z) (Q := Q) hM (by omega)
    rw [← ih (i + 1) (by omega), e119_4]
    simp only [e119_0, e119_1, e119_2, e119_3, e119_5, e119_6, e119_9, e119_10, e119_11, e119_14, e119_15, e119_16, e119_17, e119_20, e119_23, e119_24, e119_27, e119_29, e119_30, e119_31, e119_32, e119_35, e119_36, e119_37, e119_38, e119_41, e119_44, e119_45, zpush, zopt_some, ↓reduceIte, List.getElem?_cons_succ, List.getElem?_cons_zero, beq_self_eq_true, true_and, and_true, Bool.true_and, Bool.and_true, Bool.false_and, Bool.and_false, nI_1, not_true_eq_false, not_false_eq_true, vp_narI, k5, k17, k29, k41, k81, k121, j484_0, cl_0, j484_1, cl_1, j484_2, cl_2, j484_3, cl_3, j484_4, cl_4, o0, ↓fd0, ↓fd1, ↓fd2, ↓fd3, ↓fd4, ↓fd5, ↓fd6, ↓fd7, ↓fd8, ↓fd9, ↓fd10, ↓fd11, ↓fd12, ↓fd13, ↓fd14, ↓fd15, ↓fd16, ↓fd17, ↓fd18, ↓fd19, ↓fd20, ↓a0, e1, e3, e4, hT, zb_eq0]
    by_cases h5 : tp (M 0) i = true
    · simp only [h5, wsum, if_true, Bool.true_eq_false, if_false]
    · have h5 : tp (M 0) i = false := by simpa using h5
      simp only [h5, wsum, if_true, Bool.false_eq_true, if_false]
theorem c_M_weights (hM : zMM h M) (hg : zG (M 0)) : Ev 119 0 [.ref 108, zU, zU] [] (h, z) Q = Q (some (.int (wsum (M 0) (gN (M 0) 2)))) (h, z) := by
  refine Eq.trans ?_ (l_M_weights hM hg (gN (M 0) 2) 0 (by omega))
  simp only [e119_0, e119_1, e119_2, e119_3, e119_5, e119_6, e119_9, e119_10, e119_11, e119_14, e119_15, e119_16, e119_17, e119_20, e119_23, e119_24, e119_27, e119_29, e119_30, e119_31, e119_32, e119_35, e119_36, e119_37, e119_38, e119_41, e119_44, e119_45, zpush, zopt_some, ↓reduceIte, List.getElem?_cons_succ, List.getElem?_cons_zero, beq_self_eq_true, true_and, and_true, Bool.true_and, Bool.and_true, Bool.false_and, Bool.and_false, nI_1, not_true_eq_false, not_false_eq_true, vp_narI]
  rfl
theorem l_M_takingPart (hM : zMM h M) (hg : zG (M 0)) : ∀ j i : Nat, i + j = gN (M 0) 2 → Ev 127 4 [.ref 108, .int (ntp (M 0) i), .int (nI i)] [] (h, z) Q = Q (some (.int (ntp (M 0) (gN (M 0) 2)))) (h, z) := by
  obtain ⟨o0, fd0, fd1, fd2, fd3, fd4, fd5, fd6, fd7, fd8, fd9, fd10, fd11, fd12, fd13, fd14, fd15, fd16, fd17, fd18, fd19, fd20, a0, a1, a2, a4, a5, a6, a7, a9, a10, a11, a14⟩ := hM.q
  obtain ⟨h2, b2⟩ := hg.2.2.1
  intro j
  induction j with
  | zero =>
    intro i hi
    have hi : i = gN (M 0) 2 := by omega
    subst hi
    have e1 : M 0 2 ≤ nI (gN (M 0) 2) := by rw [← h2]; exact Int32.le_refl _
    rw [e127_4]
    simp only [e127_0, e127_1, e127_2, e127_3, e127_5, e127_6, e127_9, e127_10, e127_11, e127_14, e127_15, e127_16, e127_17, e127_20, e127_23, e127_24, e127_27, e127_28, e127_29, e127_30, e127_33, e127_36, e127_37, zpush, zopt_some, ↓reduceIte, List.getElem?_cons_succ, List.getElem?_cons_zero, beq_self_eq_true, true_and, and_true, Bool.true_and, Bool.and_true, Bool.false_and, Bool.and_false, nI_1, not_true_eq_false, not_false_eq_true, vp_narI, k5, k17, k29, k41, k81, k121, j484_0, cl_0, j484_1, cl_1, j484_2, cl_2, j484_3, cl_3, j484_4, cl_4, o0, ↓fd0, ↓fd1, ↓fd2, ↓fd3, ↓fd4, ↓fd5, ↓fd6, ↓fd7, ↓fd8, ↓fd9, ↓fd10, ↓fd11, ↓fd12, ↓fd13, ↓fd14, ↓fd15, ↓fd16, ↓fd17, ↓fd18, ↓fd19, ↓fd20, ↓a0, e1]
  | succ j ih =>
    intro i hi
    have hlt : i < gN (M 0) 2 := by omega
    have e1 : ¬ M 0 2 ≤ nI i := by rw [h2]; exact nI_ge hlt (by omega)
    have hT := fun (Q : Option Value → zX → Prop) => c_M_takesPart (s := i) (z := z) (Q := Q) hM (by omega)
    rw [← ih (i + 1) (by omega), e127_4]
    simp only [e127_0, e127_1, e127_2, e127_3, e127_5, e127_6, e127_9, e127_10, e127_11, e127_14, e127_15, e127_16, e127_17, e127_20, e127_23, e127_24, e127_27, e127_28, e127_29, e127_30, e127_33, e127_36, e127_37, zpush, zopt_some, ↓reduceIte, List.getElem?_cons_succ, List.getElem?_cons_zero, beq_self_eq_true, true_and, and_true, Bool.true_and, Bool.and_true, Bool.false_and, Bool.and_false, nI_1, not_true_eq_false, not_false_eq_true, vp_narI, k5, k17, k29, k41, k81, k121, j484_0, cl_0, j484_1, cl_1, j484_2, cl_2, j484_3, cl_3, j484_4, cl_4, o0, ↓fd0, ↓fd1, ↓fd2, ↓fd3, ↓fd4, ↓fd5, ↓fd6, ↓fd7, ↓fd8, ↓fd9, ↓fd10, ↓fd11, ↓fd12, ↓fd13, ↓fd14, ↓fd15, ↓fd16, ↓fd17, ↓fd18, ↓fd19, ↓fd20, ↓a0, e1, hT, zb_eq0]
    by_cases h5 : tp (M 0) i = true
    · simp only [h5, ntp, if_true, Bool.true_eq_false, if_false]
    · have h5 : tp (M 0) i = false := by simpa using h5
      simp only [h5, ntp, if_true, Bool.false_eq_true, if_false]
theorem c_M_takingPart (hM : zMM h M) (hg : zG (M 0)) : Ev 127 0 [.ref 108, zU, zU] [] (h, z) Q = Q (some (.int (ntp (M 0) (gN (M 0) 2)))) (h, z) := by
  refine Eq.trans ?_ (l_M_takingPart hM hg (gN (M 0) 2) 0 (by omega))
  simp only [e127_0, e127_1, e127_2, e127_3, e127_5, e127_6, e127_9, e127_10, e127_11, e127_14, e127_15, e127_16, e127_17, e127_20, e127_23, e127_24, e127_27, e127_28, e127_29, e127_30, e127_33, e127_36, e127_37, zpush, zopt_some, ↓reduceIte, List.getElem?_cons_succ, List.getElem?_cons_zero, beq_self_eq_true, true_and, and_true, Bool.true_and, Bool.and_true, Bool.false_and, Bool.and_false, nI_1, not_true_eq_false, not_false_eq_true, vp_narI]
  rfl
theorem l_M_pinnedTo {s : Int32} (hM : zMM h M) (hg : zG (M 0)) : ∀ j i : Nat, i + j = gN (M 0) 3 → Ev 121 4 [.ref 108, .int s, .int (npin (M 0) s i), .int (nI i)] [] (h, z) Q = Q (some (.int (npin (M 0) s (gN (M 0) 3)))) (h, z) := by
  obtain ⟨o0, fd0, fd1, fd2, fd3, fd4, fd5, fd6, fd7, fd8, fd9, fd10, fd11, fd12, fd13, fd14, fd15, fd16, fd17, fd18, fd19, fd20, a0, a1, a2, a4, a5, a6, a7, a9, a10, a11, a14⟩ := hM.q
  obtain ⟨h3, b3⟩ := hg.2.2.2.1
  intro j
  induction j with
  | zero =>
    intro i hi
    have hi : i = gN (M 0) 3 := by omega
    subst hi
    have e1 : M 0 3 ≤ nI (gN (M 0) 3) := by rw [← h3]; exact Int32.le_refl _
    rw [e121_4]
    simp only [e121_0, e121_1, e121_2, e121_3, e121_5, e121_6, e121_9, e121_10, e121_11, e121_14, e121_15, e121_16, e121_19, e121_21, e121_22, e121_23, e121_24, e121_25, e121_28, e121_29, e121_32, e121_33, e121_34, e121_35, e121_38, e121_41, e121_42, zpush, zopt_some, ↓reduceIte, List.getElem?_cons_succ, List.getElem?_cons_zero, beq_self_eq_true, true_and, and_true, Bool.true_and, Bool.and_true, Bool.false_and, Bool.and_false, nI_1, not_true_eq_false, not_false_eq_true, vp_narI, k5, k17, k29, k41, k81, k121, j484_0, cl_0, j484_1, cl_1, j484_2, cl_2, j484_3, cl_3, j484_4, cl_4, o0, ↓fd0, ↓fd1, ↓fd2, ↓fd3, ↓fd4, ↓fd5, ↓fd6, ↓fd7, ↓fd8, ↓fd9, ↓fd10, ↓fd11, ↓fd12, ↓fd13, ↓fd14, ↓fd15, ↓fd16, ↓fd17, ↓fd18, ↓fd19, ↓fd20, ↓a0, e1]
  | succ j ih =>
    intro i hi
    have hlt : i < gN (M 0) 3 := by omega
    have e1 : ¬ M 0 3 ≤ nI i := by rw [h3]; exact nI_ge hlt (by omega)
    have e3 : zinb (nI (81 + i)) 484 = true := zinb_nI (by omega) (by decide)
    have e4 : (nI (81 + i)).toNatClampNeg = 81 + i := nI_clamp (by omega)
    rw [← ih (i + 1) (by omega), e121_4]
    simp only [e121_0, e121_1, e121_2, e121_3, e121_5, e121_6, e121_9, e121_10, e121_11, e121_14, e121_15, e121_16, e121_19, e121_21, e121_22, e121_23, e121_24, e121_25, e121_28, e121_29, e121_32, e121_33, e121_34, e121_35, e121_38, e121_41, e121_42, zpush, zopt_some, ↓reduceIte, List.getElem?_cons_succ, List.getElem?_cons_zero, beq_self_eq_true, true_and, and_true, Bool.true_and, Bool.and_true, Bool.false_and, Bool.and_false, nI_1, not_true_eq_false, not_false_eq_true, vp_narI, k5, k17, k29, k41, k81, k121, j484_0, cl_0, j484_1, cl_1, j484_2, cl_2, j484_3, cl_3, j484_4, cl_4, o0, ↓fd0, ↓fd1, ↓fd2, ↓fd3, ↓fd4, ↓fd5, ↓fd6, ↓fd7, ↓fd8, ↓fd9, ↓fd10, ↓fd11, ↓fd12, ↓fd13, ↓fd14, ↓fd15, ↓fd16, ↓fd17, ↓fd18, ↓fd19, ↓fd20, ↓a0, e1, e3, e4]
    by_cases h5 : M 0 (81 + i) = s
    · simp only [h5, npin, if_true, not_true_eq_false, if_false]
    · simp only [h5, npin, not_false_eq_true, if_true, if_false]
theorem c_M_pinnedTo {s : Int32} (hM : zMM h M) (hg : zG (M 0)) : Ev 121 0 [.ref 108, .int s, zU, zU] [] (h, z) Q = Q (some (.int (npin (M 0) s (gN (M 0) 3)))) (h, z) := by
  refine Eq.trans ?_ (l_M_pinnedTo hM hg (gN (M 0) 3) 0 (by omega))
  simp only [e121_0, e121_1, e121_2, e121_3, e121_5, e121_6, e121_9, e121_10, e121_11, e121_14, e121_15, e121_16, e121_19, e121_21, e121_22, e121_23, e121_24, e121_25, e121_28, e121_29, e121_32, e121_33, e121_34, e121_35, e121_38, e121_41, e121_42, zpush, zopt_some, ↓reduceIte, List.getElem?_cons_succ, List.getElem?_cons_zero, beq_self_eq_true, true_and, and_true, Bool.true_and, Bool.and_true, Bool.false_and, Bool.and_false, nI_1, not_true_eq_false, not_false_eq_true, vp_narI]
  rfl
end ZC
end
