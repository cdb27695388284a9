/-! the model's changes of its row -/
section
set_option maxRecDepth 100000
theorem k484m (n : Nat) : (484 : Int32) * nI n = nI (484 * n) := by rw [show (484 : Int32) = nI 484 from rfl, pk_mul]
theorem k484 (n : Nat) : nI n + 484 = nI (n + 484) := by rw [show (484 : Int32) = nI 484 from rfl, nI_add]
theorem in_13 (v : Int32) : (decide ((1 : Int64) ≤ v.toInt64) && decide (v.toInt64 ≤ 3)) = (decide (1 ≤ v) && decide (v ≤ 3)) := by
  rw [Bool.eq_iff_iff]
  simp only [Bool.and_eq_true, decide_eq_true_eq, Int64.le_iff_toInt_le, Int32.le_iff_toInt_le, Int32.toInt_toInt64]
  exact Iff.rfl
section ZC
variable {h : List zC} {z : Nat × (Nat × (Nat → Int32))} {M : Nat → Nat → Int32} {Q : Option Value → zX → Prop} {g : Nat → Int32}
theorem l_M_keep (h0 : List zC) (M0 : Nat → Nat → Int32) (hQ : ∀ h' M', zMv [1] h0 M0 h' M' → (∀ q, q < 484 → M' 1 q = M0 0 q) → Q none (h', z)) :
    ∀ (j i : Nat) (h : List zC) (M : Nat → Nat → Int32), i + j = 484 → zMv [1] h0 M0 h M → (∀ q, q < i → M 1 q = M0 0 q) → Ev 84 2 [.ref 108, .int (nI i)] [] (h, z) Q := by
  intro j
  induction j with
  | zero =>
    intro i h M hi V H
    have hi : i = 484 := by omega
    subst hi
    have e1 : (484 : Int32) ≤ nI 484 := by decide
    rw [e84_2]
    simp only [e84_0, e84_1, e84_3, e84_6, e84_9, e84_10, e84_13, e84_14, e84_15, e84_18, e84_19, e84_20, e84_21, e84_24, e84_27, zpush, zopt_some, ↓reduceIte, List.getElem?_cons_succ, List.getElem?_cons_zero, beq_self_eq_true, true_and, and_true, Bool.true_and, Bool.and_true, Bool.false_and, Bool.and_false, nI_1, not_true_eq_false, not_false_eq_true, vp_narI, e1]
    exact hQ h M V H
  | succ j ih =>
    intro i h M hi V H
    obtain ⟨o0, fd0, fd1, fd2, fd3, fd4, fd5, fd6, fd7, fd8, fd9, fd10, fd11, fd12, fd13, fd14, fd15, fd16, fd17, fd18, fd19, fd20, a0, a1, a2, a4, a5, a6, a7, a9, a10, a11, a14⟩ := V.mm.q
    have e1 : ¬ (484 : Int32) ≤ nI i := nI_ge (b := 484) (by omega) (by omega)
    have e2 : zinb (nI i) 484 = true := zinb_nI (by omega) (by decide)
    have e3 : (nI i).toNatClampNeg = i := nI_clamp (by omega)
    rw [e84_2]
    simp only [e84_0, e84_1, e84_3, e84_6, e84_9, e84_10, e84_13, e84_14, e84_15, e84_18, e84_19, e84_21, e84_24, e84_27, zpush, zopt_some, ↓reduceIte, List.getElem?_cons_succ, List.getElem?_cons_zero, beq_self_eq_true, true_and, and_true, Bool.true_and, Bool.and_true, Bool.false_and, Bool.and_false, nI_1, not_true_eq_false, not_false_eq_true, vp_narI, o0, ↓fd0, ↓fd1, ↓fd2, ↓fd3, ↓fd4, ↓fd5, ↓fd6, ↓fd7, ↓fd8, ↓fd9, ↓fd10, ↓fd11, ↓fd12, ↓fd13, ↓fd14, ↓fd15, ↓fd16, ↓fd17, ↓fd18, ↓fd19, ↓fd20, ↓a0, e1, e2, e3]
    rw [e84_20]
    refine V.mm.w1 rfl (by omega) (fun h2 M2 V2 E2 => ?_)
    simp only [e84_0, e84_1, e84_3, e84_6, e84_9, e84_10, e84_13, e84_14, e84_15, e84_18, e84_19, e84_21, e84_24, e84_27, zpush, zopt_some, ↓reduceIte, List.getElem?_cons_succ, List.getElem?_cons_zero, beq_self_eq_true, true_and, and_true, Bool.true_and, Bool.and_true, Bool.false_and, Bool.and_false, nI_1, not_true_eq_false, not_false_eq_true, vp_narI]
    refine ih (i + 1) h2 M2 (by omega) (V.to V2 rfl) (fun q hq => ?_)
    rw [E2]
    by_cases e : q = i
    · subst e; rw [upd_s, V.k 0 rfl]
    · rw [upd_n e]; exact H q (by omega)
theorem c_M_keep (hM : zMM h M) (hQ : ∀ h' M', zMv [1] h M h' M' → (∀ q, q < 484 → M' 1 q = M 0 q) → Q none (h', z)) : Ev 84 0 [.ref 108, zU] [] (h, z) Q := by
  simp only [e84_0, e84_1, e84_3, e84_6, e84_9, e84_10, e84_13, e84_14, e84_15, e84_18, e84_19, e84_20, e84_21, e84_24, e84_27, zpush, zopt_some, ↓reduceIte, List.getElem?_cons_succ, List.getElem?_cons_zero, beq_self_eq_true, true_and, and_true, Bool.true_and, Bool.and_true, Bool.false_and, Bool.and_false, nI_1, not_true_eq_false, not_false_eq_true, vp_narI]
  exact l_M_keep h M hQ 484 0 h M (by omega) hM.rf (fun q hq => absurd hq (by omega))
theorem l_M_giveBack (h0 : List zC) (M0 : Nat → Nat → Int32) (hQ : ∀ h' M', zMv [0] h0 M0 h' M' → (∀ q, q < 484 → M' 0 q = M0 1 q) → Q none (h', z)) :
    ∀ (j i : Nat) (h : List zC) (M : Nat → Nat → Int32), i + j = 484 → zMv [0] h0 M0 h M → (∀ q, q < i → M 0 q = M0 1 q) → Ev 85 2 [.ref 108, .int (nI i)] [] (h, z) Q := by
  intro j
  induction j with
  | zero =>
    intro i h M hi V H
    have hi : i = 484 := by omega
    subst hi
    have e1 : (484 : Int32) ≤ nI 484 := by decide
    rw [e85_2]
    simp only [e85_0, e85_1, e85_3, e85_6, e85_9, e85_10, e85_13, e85_14, e85_15, e85_18, e85_19, e85_20, e85_21, e85_24, e85_27, zpush, zopt_some, ↓reduceIte, List.getElem?_cons_succ, List.getElem?_cons_zero, beq_self_eq_true, true_and, and_true, Bool.true_and, Bool.and_true, Bool.false_and, Bool.and_false, nI_1, not_true_eq_false, not_false_eq_true, vp_narI, e1]
    exact hQ h M V H
  | succ j ih =>
    intro i h M hi V H
    obtain ⟨o0, fd0, fd1, fd2, fd3, fd4, fd5, fd6, fd7, fd8, fd9, fd10, fd11, fd12, fd13, fd14, fd15, fd16, fd17, fd18, fd19, fd20, a0, a1, a2, a4, a5, a6, a7, a9, a10, a11, a14⟩ := V.mm.q
    have e1 : ¬ (484 : Int32) ≤ nI i := nI_ge (b := 484) (by omega) (by omega)
    have e2 : zinb (nI i) 484 = true := zinb_nI (by omega) (by decide)
    have e3 : (nI i).toNatClampNeg = i := nI_clamp (by omega)
    rw [e85_2]
    simp only [e85_0, e85_1, e85_3, e85_6, e85_9, e85_10, e85_13, e85_14, e85_15, e85_18, e85_19, e85_21, e85_24, e85_27, zpush, zopt_some, ↓reduceIte, List.getElem?_cons_succ, List.getElem?_cons_zero, beq_self_eq_true, true_and, and_true, Bool.true_and, Bool.and_true, Bool.false_and, Bool.and_false, nI_1, not_true_eq_false, not_false_eq_true, vp_narI, o0, ↓fd0, ↓fd1, ↓fd2, ↓fd3, ↓fd4, ↓fd5, ↓fd6, ↓fd7, ↓fd8, ↓fd9, ↓fd10, ↓fd11, ↓fd12, ↓fd13, ↓fd14, ↓fd15, ↓fd16, ↓fd17, ↓fd18, ↓fd19, ↓fd20, ↓a1, e1, e2, e3]
    rw [e85_20]
    refine V.mm.w0 rfl (by omega) (fun h2 M2 V2 E2 => ?_)
    simp only [e85_0, e85_1, e85_3, e85_6, e85_9, e85_10, e85_13, e85_14, e85_15, e85_18, e85_19, e85_21, e85_24, e85_27, zpush, zopt_some, ↓reduceIte, List.getElem?_cons_succ, List.getElem?_cons_zero, beq_self_eq_true, true_and, and_true, Bool.true_and, Bool.and_true, Bool.false_and, Bool.and_false, nI_1, not_true_eq_false, not_false_eq_true, vp_narI]
    refine ih (i + 1) h2 M2 (by omega) (V.to V2 rfl) (fun q hq => ?_)
    rw [E2]
    by_cases e : q = i
    · subst e; rw [upd_s, V.k 1 rfl]
    · rw [upd_n e]; exact H q (by omega)
theorem c_M_giveBack (hM : zMM h M) (hQ : ∀ h' M', zMv [0] h M h' M' → (∀ q, q < 484 → M' 0 q = M 1 q) → Q none (h', z)) : Ev 85 0 [.ref 108, zU] [] (h, z) Q := by
  simp only [e85_0, e85_1, e85_3, e85_6, e85_9, e85_10, e85_13, e85_14, e85_15, e85_18, e85_19, e85_20, e85_21, e85_24, e85_27, zpush, zopt_some, ↓reduceIte, List.getElem?_cons_succ, List.getElem?_cons_zero, beq_self_eq_true, true_and, and_true, Bool.true_and, Bool.and_true, Bool.false_and, Bool.and_false, nI_1, not_true_eq_false, not_false_eq_true, vp_narI]
  exact l_M_giveBack h M hQ 484 0 h M (by omega) hM.rf (fun q hq => absurd hq (by omega))
theorem l_M_ch1 {r : Int32} (h0 : List zC) (M0 : Nat → Nat → Int32) (hQ : ∀ h' M', zMv [2] h0 M0 h' M' → (∀ q, q < 2420 → M' 2 q = M0 2 (q + 484)) → Ev 86 46 [.ref 108, .int r, .int (nI 2420)] [] (h', z) Q) :
    ∀ (j i : Nat) (h : List zC) (M : Nat → Nat → Int32), i + j = 2420 → zMv [2] h0 M0 h M → (∀ q, q < i → M 2 q = M0 2 (q + 484)) → (∀ q, i ≤ q → M 2 q = M0 2 q) → Ev 86 17 [.ref 108, .int r, .int (nI i)] [] (h, z) Q := by
  intro j
  induction j with
  | zero =>
    intro i h M hi V H _
    have hi : i = 2420 := by omega
    subst hi
    have e1 : (2420 : Int32) ≤ nI 2420 := by decide
    rw [e86_17]
    simp only [e86_0, e86_1, e86_4, e86_5, e86_6, e86_7, e86_10, e86_12, e86_15, e86_16, e86_18, e86_21, e86_24, e86_25, e86_28, e86_29, e86_30, e86_33, e86_34, e86_37, e86_38, e86_39, e86_40, e86_43, e86_47, e86_48, e86_51, e86_52, e86_53, e86_56, e86_57, e86_58, e86_59, e86_62, e86_65, e86_66, e86_69, e86_72, e86_73, e86_76, e86_77, e86_78, e86_79, e86_80, e86_83, e86_84, e86_85, e86_86, e86_89, e86_92, e86_93, e86_94, e86_97, e86_98, e86_99, e86_102, e86_103, zpush, zopt_some, ↓reduceIte, List.getElem?_cons_succ, List.getElem?_cons_zero, beq_self_eq_true, true_and, and_true, Bool.true_and, Bool.and_true, Bool.false_and, Bool.and_false, nI_1, not_true_eq_false, not_false_eq_true, vp_narI, e1]
    exact hQ h M V H
  | succ j ih =>
    intro i h M hi V H H2
    obtain ⟨o0, fd0, fd1, fd2, fd3, fd4, fd5, fd6, fd7, fd8, fd9, fd10, fd11, fd12, fd13, fd14, fd15, fd16, fd17, fd18, fd19, fd20, a0, a1, a2, a4, a5, a6, a7, a9, a10, a11, a14⟩ := V.mm.q
    have e1 : ¬ (2420 : Int32) ≤ nI i := nI_ge (b := 2420) (by omega) (by omega)
    have e2 : zinb (nI (i + 484)) 2904 = true := zinb_nI (by omega) (by decide)
    have e3 : (nI (i + 484)).toNatClampNeg = i + 484 := nI_clamp (by omega)
    rw [e86_17]
    simp only [e86_0, e86_1, e86_4, e86_5, e86_6, e86_7, e86_10, e86_12, e86_15, e86_16, e86_18, e86_21, e86_24, e86_25, e86_28, e86_29, e86_30, e86_33, e86_34, e86_37, e86_38, e86_40, e86_43, e86_46, e86_47, e86_48, e86_51, e86_52, e86_53, e86_56, e86_57, e86_58, e86_59, e86_62, e86_65, e86_66, e86_69, e86_72, e86_73, e86_76, e86_77, e86_78, e86_79, e86_80, e86_83, e86_84, e86_85, e86_86, e86_89, e86_92, e86_93, e86_94, e86_97, e86_98, e86_99, e86_102, e86_103, zpush, zopt_some, ↓reduceIte, List.getElem?_cons_succ, List.getElem?_cons_zero, beq_self_eq_true, true_and, and_true, Bool.true_and, Bool.and_true, Bool.false_and, Bool.and_false, nI_1, not_true_eq_false, not_false_eq_true, vp_narI, o0, ↓fd0, ↓fd1, ↓fd2, ↓fd3, ↓fd4, ↓fd5, ↓fd6, ↓fd7, ↓fd8, ↓fd9, ↓fd10, ↓fd11, ↓fd12, ↓fd13, ↓fd14, ↓fd15, ↓fd16, ↓fd17, ↓fd18, ↓fd19, ↓fd20, ↓a2, k484, e1, e2, e3]
    rw [e86_39]
    refine V.mm.w2 rfl (by omega) (fun h2 M2 V2 E2 => ?_)
    simp only [e86_0, e86_1, e86_4, e86_5, e86_6, e86_7, e86_10, e86_12, e86_15, e86_16, e86_18, e86_21, e86_24, e86_25, e86_28, e86_29, e86_30, e86_33, e86_34, e86_37, e86_38, e86_40, e86_43, e86_46, e86_47, e86_48, e86_51, e86_52, e86_53, e86_56, e86_57, e86_58, e86_59, e86_62, e86_65, e86_66, e86_69, e86_72, e86_73, e86_76, e86_77, e86_78, e86_79, e86_80, e86_83, e86_84, e86_85, e86_86, e86_89, e86_92, e86_93, e86_94, e86_97, e86_98, e86_99, e86_102, e86_103, zpush, zopt_some, ↓reduceIte, List.getElem?_cons_succ, List.getElem?_cons_zero, beq_self_eq_true, true_and, and_true, Bool.true_and, Bool.and_true, Bool.false_and, Bool.and_false, nI_1, not_true_eq_false, not_false_eq_true, vp_narI]
    refine ih (i + 1) h2 M2 (by omega) (V.to V2 rfl) (fun q hq => ?_) (fun q hq => ?_)
    · rw [E2]
      by_cases e : q = i
      · subst e; rw [upd_s]; exact H2 _ (by omega)
      · rw [upd_n e]; exact H q (by omega)
    · rw [E2, upd_n (by omega)]; exact H2 q (by omega)
theorem l_M_ch2 {r : Int32} {n : Nat} (hn : n ≤ 5) (h0 : List zC) (M0 : Nat → Nat → Int32) (e3 : M0 3 0 = nI n) (hQ : ∀ h' M', zMv [2, 3] h0 M0 h' M' → M' 3 0 = nI (n + 1) → (∀ q, q < 484 * n → M' 2 q = M0 2 q) → (∀ q, q < 484 → M' 2 (484 * n + q) = M0 1 q) → Q (some (.int r)) (h', z)) :
    ∀ (j i : Nat) (h : List zC) (M : Nat → Nat → Int32), i + j = 484 → zMv [2] h0 M0 h M → (∀ q, q < 484 * n → M 2 q = M0 2 q) → (∀ q, q < i → M 2 (484 * n + q) = M0 1 q) → Ev 86 58 [.ref 108, .int r, .int (nI i)] [] (h, z) Q := by
  intro j
  induction j with
  | zero =>
    intro i h M hi V H1 H2
    have hi : i = 484 := by omega
    subst hi
    obtain ⟨o0, fd0, fd1, fd2, fd3, fd4, fd5, fd6, fd7, fd8, fd9, fd10, fd11, fd12, fd13, fd14, fd15, fd16, fd17, fd18, fd19, fd20, a0, a1, a2, a4, a5, a6, a7, a9, a10, a11, a14⟩ := V.mm.q
    have e1 : (484 : Int32) ≤ nI 484 := by decide
    have e3' : M 3 0 = nI n := (congrFun (V.k 3 rfl) 0).trans e3
    rw [e86_58]
    simp only [e86_0, e86_1, e86_4, e86_5, e86_6, e86_7, e86_10, e86_12, e86_15, e86_16, e86_18, e86_21, e86_24, e86_25, e86_28, e86_29, e86_30, e86_33, e86_34, e86_37, e86_38, e86_39, e86_40, e86_43, e86_46, e86_47, e86_48, e86_51, e86_52, e86_53, e86_56, e86_57, e86_59, e86_62, e86_65, e86_66, e86_69, e86_72, e86_73, e86_76, e86_77, e86_78, e86_79, e86_80, e86_83, e86_84, e86_85, e86_86, e86_89, e86_92, e86_93, e86_94, e86_97, e86_98, e86_99, e86_102, e86_103, zpush, zopt_some, ↓reduceIte, List.getElem?_cons_succ, List.getElem?_cons_zero, beq_self_eq_true, true_and, and_true, Bool.true_and, Bool.and_true, Bool.false_and, Bool.and_false, nI_1, not_true_eq_false, not_false_eq_true, vp_narI, o0, ↓fd0, ↓fd1, ↓fd2, ↓fd3, ↓fd4, ↓fd5, ↓fd6, ↓fd7, ↓fd8, ↓fd9, ↓fd10, ↓fd11, ↓fd12, ↓fd13, ↓fd14, ↓fd15, ↓fd16, ↓fd17, ↓fd18, ↓fd19, ↓fd20, e1, e3']
    refine V.mm.p3 (fun h2 M2 V2 E2 => ?_)
    exact hQ h2 M2 ((V.mono rfl).to V2 rfl) E2 (fun q hq => by rw [V2.k 2 rfl]; exact H1 q hq) (fun q hq => by rw [V2.k 2 rfl]; exact H2 q hq)
  | succ j ih =>
    intro i h M hi V H1 H2
    obtain ⟨o0, fd0, fd1, fd2, fd3, fd4, fd5, fd6, fd7, fd8, fd9, fd10, fd11, fd12, fd13, fd14, fd15, fd16, fd17, fd18, fd19, fd20, a0, a1, a2, a4, a5, a6, a7, a9, a10, a11, a14⟩ := V.mm.q
    have e3' : M 3 0 = nI n := (congrFun (V.k 3 rfl) 0).trans e3
    have e1 : ¬ (484 : Int32) ≤ nI i := nI_ge (b := 484) (by omega) (by omega)
    have e2 : zinb (nI i) 484 = true := zinb_nI (by omega) (by decide)
    have e4 : (nI i).toNatClampNeg = i := nI_clamp (by omega)
    rw [e86_58]
    simp only [e86_0, e86_1, e86_4, e86_5, e86_6, e86_7, e86_10, e86_12, e86_15, e86_16, e86_18, e86_21, e86_24, e86_25, e86_28, e86_29, e86_30, e86_33, e86_34, e86_37, e86_38, e86_39, e86_40, e86_43, e86_46, e86_47, e86_48, e86_51, e86_52, e86_53, e86_56, e86_57, e86_59, e86_62, e86_65, e86_66, e86_69, e86_72, e86_73, e86_76, e86_77, e86_78, e86_79, e86_80, e86_83, e86_84, e86_86, e86_89, e86_92, e86_93, e86_94, e86_97, e86_98, e86_99, e86_102, e86_103, zpush, zopt_some, ↓reduceIte, List.getElem?_cons_succ, List.getElem?_cons_zero, beq_self_eq_true, true_and, and_true, Bool.true_and, Bool.and_true, Bool.false_and, Bool.and_false, nI_1, not_true_eq_false, not_false_eq_true, vp_narI, o0, ↓fd0, ↓fd1, ↓fd2, ↓fd3, ↓fd4, ↓fd5, ↓fd6, ↓fd7, ↓fd8, ↓fd9, ↓fd10, ↓fd11, ↓fd12, ↓fd13, ↓fd14, ↓fd15, ↓fd16, ↓fd17, ↓fd18, ↓fd19, ↓fd20, ↓a1, ↓a2, e3', k484m, nI_add, e1, e2, e4]
    rw [e86_85]
    refine V.mm.w2 rfl (by omega) (fun h2 M2 V2 E2 => ?_)
    simp only [e86_0, e86_1, e86_4, e86_5, e86_6, e86_7, e86_10, e86_12, e86_15, e86_16, e86_18, e86_21, e86_24, e86_25, e86_28, e86_29, e86_30, e86_33, e86_34, e86_37, e86_38, e86_39, e86_40, e86_43, e86_46, e86_47, e86_48, e86_51, e86_52, e86_53, e86_56, e86_57, e86_59, e86_62, e86_65, e86_66, e86_69, e86_72, e86_73, e86_76, e86_77, e86_78, e86_79, e86_80, e86_83, e86_84, e86_86, e86_89, e86_92, e86_93, e86_94, e86_97, e86_98, e86_99, e86_102, e86_103, zpush, zopt_some, ↓reduceIte, List.getElem?_cons_succ, List.getElem?_cons_zero, beq_self_eq_true, true_and, and_true, Bool.true_and, Bool.and_true, Bool.false_and, Bool.and_false, nI_1, not_true_eq_false, not_false_eq_true, vp_narI]
    refine ih (i + 1) h2 M2 (by omega) (V.to V2 rfl) (fun q hq => ?_) (fun q hq => ?_)
    · rw [E2, upd_n (by omega)]; exact H1 q hq
    · rw [E2]
      by_cases e : q = i
      · subst e; rw [upd_s, V.k 1 rfl]
      · rw [upd_n (by omega)]; exact H2 q (by omega)
theorem c_M_changed {r : Int32} {n : Nat} (hM : zMM h M) (hn : n ≤ 6) (e3 : M 3 0 = nI n) (hQ : ∀ h' M', zMv [2, 3] h M h' M' → M' 3 0 = nI (recN r n) → (∀ j, j < recN r n → ∀ k, k < 484 → M' 2 (484 * j + k) = recH r n (fun j k => M 2 (484 * j + k)) (M 1) j k) → Q (some (.int r)) (h', z)) :
    Ev 86 0 [.ref 108, .int r, zU] [] (h, z) Q := by
  obtain ⟨o0, fd0, fd1, fd2, fd3, fd4, fd5, fd6, fd7, fd8, fd9, fd10, fd11, fd12, fd13, fd14, fd15, fd16, fd17, fd18, fd19, fd20, a0, a1, a2, a4, a5, a6, a7, a9, a10, a11, a14⟩ := hM.q
  unfold recN recH at hQ
  by_cases hr : r < 0
  · have e1 : ¬ (0 : Int32) ≤ r := Int32.not_le.mpr hr
    simp only [hr, ↓reduceIte] at hQ
    simp only [e86_0, e86_1, e86_4, e86_5, e86_6, e86_7, e86_10, e86_12, e86_15, e86_16, e86_18, e86_21, e86_24, e86_25, e86_28, e86_29, e86_30, e86_33, e86_34, e86_37, e86_38, e86_39, e86_40, e86_43, e86_46, e86_47, e86_48, e86_51, e86_52, e86_53, e86_56, e86_57, e86_59, e86_62, e86_65, e86_66, e86_69, e86_72, e86_73, e86_76, e86_77, e86_78, e86_79, e86_80, e86_83, e86_84, e86_85, e86_86, e86_89, e86_92, e86_93, e86_94, e86_97, e86_98, e86_99, e86_102, e86_103, zpush, zopt_some, ↓reduceIte, List.getElem?_cons_succ, List.getElem?_cons_zero, beq_self_eq_true, true_and, and_true, Bool.true_and, Bool.and_true, Bool.false_and, Bool.and_false, nI_1, not_true_eq_false, not_false_eq_true, vp_narI, e1]
    exact hQ h M hM.rf e3 (fun j hj k hk => rfl)
  · have e1 : (0 : Int32) ≤ r := Int32.not_lt.mp hr
    simp only [hr, ↓reduceIte] at hQ
    unfold pshN pshH at hQ
    by_cases h6 : n < 6
    · simp only [h6, ↓reduceIte] at hQ
      have e6 : ¬ nI n = 6 := fun e => by
        have := (nI_eq (a := n) (b := 6) (by omega) (by decide)).mp e
        omega
      simp only [e86_0, e86_1, e86_4, e86_5, e86_6, e86_7, e86_10, e86_12, e86_15, e86_16, e86_18, e86_21, e86_24, e86_25, e86_28, e86_29, e86_30, e86_33, e86_34, e86_37, e86_38, e86_39, e86_40, e86_43, e86_46, e86_47, e86_48, e86_51, e86_52, e86_53, e86_56, e86_57, e86_59, e86_62, e86_65, e86_66, e86_69, e86_72, e86_73, e86_76, e86_77, e86_78, e86_79, e86_80, e86_83, e86_84, e86_85, e86_86, e86_89, e86_92, e86_93, e86_94, e86_97, e86_98, e86_99, e86_102, e86_103, zpush, zopt_some, ↓reduceIte, List.getElem?_cons_succ, List.getElem?_cons_zero, beq_self_eq_true, true_and, and_true, Bool.true_and, Bool.and_true, Bool.false_and, Bool.and_false, nI_1, not_true_eq_false, not_false_eq_true, vp_narI, o0, ↓fd0, ↓fd1, ↓fd2, ↓fd3, ↓fd4, ↓fd5, ↓fd6, ↓fd7, ↓fd8, ↓fd9, ↓fd10, ↓fd11, ↓fd12, ↓fd13, ↓fd14, ↓fd15, ↓fd16, ↓fd17, ↓fd18, ↓fd19, ↓fd20, e1, e3, e6, not_false_eq_true]
      refine l_M_ch2 (n := n) (by omega) h M e3 (fun h2 M2 V2 E2 H1 H2 => ?_) 484 0 h M (by omega) hM.rf (fun q _ => rfl) (fun q hq => absurd hq (by omega))
      refine hQ h2 M2 V2 E2 (fun j hj k hk => ?_)
      by_cases e : j = n
      · subst e; rw [if_pos rfl]; exact H2 k hk
      · rw [if_neg e]; exact H1 _ (by omega)
    · have h66 : n = 6 := by omega
      subst h66
      simp only [h6, ↓reduceIte] at hQ
      have e6 : nI 6 = 6 := rfl
      simp only [e86_0, e86_1, e86_4, e86_5, e86_6, e86_7, e86_10, e86_12, e86_15, e86_16, e86_18, e86_21, e86_24, e86_25, e86_28, e86_29, e86_30, e86_33, e86_34, e86_37, e86_38, e86_39, e86_40, e86_43, e86_46, e86_47, e86_48, e86_51, e86_52, e86_53, e86_56, e86_57, e86_59, e86_62, e86_65, e86_66, e86_69, e86_72, e86_73, e86_76, e86_77, e86_78, e86_79, e86_80, e86_83, e86_84, e86_85, e86_86, e86_89, e86_92, e86_93, e86_94, e86_97, e86_98, e86_99, e86_102, e86_103, zpush, zopt_some, ↓reduceIte, List.getElem?_cons_succ, List.getElem?_cons_zero, beq_self_eq_true, true_and, and_true, Bool.true_and, Bool.and_true, Bool.false_and, Bool.and_false, nI_1, not_true_eq_false, not_false_eq_true, vp_narI, o0, ↓fd0, ↓fd1, ↓fd2, ↓fd3, ↓fd4, ↓fd5, ↓fd6, ↓fd7, ↓fd8, ↓fd9, ↓fd10, ↓fd11, ↓fd12, ↓fd13, ↓fd14, ↓fd15, ↓fd16, ↓fd17, ↓fd18, ↓fd19, ↓fd20, e1, e3, e6]
      refine l_M_ch1 h M (fun h2 M2 V2 H2 => ?_) 2420 0 h M (by omega) hM.rf (fun q hq => absurd hq (by omega)) (fun q _ => rfl)
      obtain ⟨o0, fd0, fd1, fd2, fd3, fd4, fd5, fd6, fd7, fd8, fd9, fd10, fd11, fd12, fd13, fd14, fd15, fd16, fd17, fd18, fd19, fd20, a0, a1, a2, a4, a5, a6, a7, a9, a10, a11, a14⟩ := V2.mm.q
      have e3' : M2 3 0 = nI 6 := (congrFun (V2.k 3 rfl) 0).trans e3
      rw [e86_46]
      simp only [e86_0, e86_1, e86_4, e86_5, e86_6, e86_7, e86_10, e86_12, e86_15, e86_16, e86_18, e86_21, e86_24, e86_25, e86_28, e86_29, e86_30, e86_33, e86_34, e86_37, e86_38, e86_39, e86_40, e86_43, e86_47, e86_48, e86_51, e86_52, e86_53, e86_56, e86_57, e86_59, e86_62, e86_65, e86_66, e86_69, e86_72, e86_73, e86_76, e86_77, e86_78, e86_79, e86_80, e86_83, e86_84, e86_85, e86_86, e86_89, e86_92, e86_93, e86_94, e86_97, e86_98, e86_99, e86_102, e86_103, zpush, zopt_some, ↓reduceIte, List.getElem?_cons_succ, List.getElem?_cons_zero, beq_self_eq_true, true_and, and_true, Bool.true_and, Bool.and_true, Bool.false_and, Bool.and_false, nI_1, not_true_eq_false, not_false_eq_true, vp_narI, o0, ↓fd0, ↓fd1, ↓fd2, ↓fd3, ↓fd4, ↓fd5, ↓fd6, ↓fd7, ↓fd8, ↓fd9, ↓fd10, ↓fd11, ↓fd12, ↓fd13, ↓fd14, ↓fd15, ↓fd16, ↓fd17, ↓fd18, ↓fd19, ↓fd20, e3', (show nI 6 - 1 = nI 5 from nI_pred 5)]
      refine V2.mm.p3 (fun h3 M3 V3 E3 => ?_)
      refine l_M_ch2 (n := 5) (by omega) h3 M3 E3 (fun h4 M4 V4 E4 H41 H42 => ?_) 484 0 h3 M3 (by omega) V3.mm.rf (fun q _ => rfl) (fun q hq => absurd hq (by omega))
      refine hQ h4 M4 (((V2.mono (T' := [2, 3]) rfl).to V3 rfl).to V4 rfl) E4 (fun j hj k hk => ?_)
      by_cases e : j = 5
      · subst e; rw [if_pos rfl, H42 k hk, V3.k 1 rfl, V2.k 1 rfl]
      · rw [if_neg e, H41 _ (by omega), V3.k 2 rfl, H2 _ (by omega), show 484 * j + k + 484 = 484 * (j + 1) + k by omega]
theorem c_M_doSet {s v : Int32} (hM : zMM h M) (hg : zG g) (eg : M 0 = g) (hQ : ∀ h' M', zMv [0, 6, 7, 8, 9] h M h' M' → M' 0 = (chS g s v).2 → Q (some (.int (chS g s v).1)) (h', z)) :
    Ev 102 0 [.ref 108, .int s, .int v, zU] [] (h, z) Q := by
  obtain ⟨o0, fd0, fd1, fd2, fd3, fd4, fd5, fd6, fd7, fd8, fd9, fd10, fd11, fd12, fd13, fd14, fd15, fd16, fd17, fd18, fd19, fd20, a0, a1, a2, a4, a5, a6, a7, a9, a10, a11, a14⟩ := hM.q
  have tail : ∀ (k : Nat) (w : Int32), k < 2 → s = nI k → zG (upd g k v) → gN (upd g k v) 3 = gN g 3 → (∀ h' M', zMv [0, 6, 7, 8, 9] h M h' M' → M' 0 = fmA g (upd g k v) → Q (some (.int (fmA g (upd g k v) 4))) (h', z)) →
      Ev 102 46 [.ref 108, .int s, .int v, .int w] [] (h, z) Q := by
    intro k w hk hs hb h3 hQ
    simp only [e102_0, e102_1, e102_4, e102_5, e102_6, e102_7, e102_10, e102_13, e102_16, e102_17, e102_18, e102_21, e102_22, e102_23, e102_24, e102_27, e102_30, e102_33, e102_34, e102_37, e102_38, e102_39, e102_40, e102_43, e102_45, e102_46, e102_47, e102_50, e102_51, e102_54, e102_55, e102_57, e102_58, e102_61, zpush, zopt_some, ↓reduceIte, List.getElem?_cons_succ, List.getElem?_cons_zero, beq_self_eq_true, true_and, and_true, Bool.true_and, Bool.and_true, Bool.false_and, Bool.and_false, nI_1, not_true_eq_false, not_false_eq_true, vp_narI, o0, ↓fd0, ↓fd1, ↓fd2, ↓fd3, ↓fd4, ↓fd5, ↓fd6, ↓fd7, ↓fd8, ↓fd9, ↓fd10, ↓fd11, ↓fd12, ↓fd13, ↓fd14, ↓fd15, ↓fd16, ↓fd17, ↓fd18, ↓fd19, ↓fd20]
    refine c_M_noteBefore hM hg eg (fun h1 M1 V1 B1 => ?_)
    obtain ⟨o0, fd0, fd1, fd2, fd3, fd4, fd5, fd6, fd7, fd8, fd9, fd10, fd11, fd12, fd13, fd14, fd15, fd16, fd17, fd18, fd19, fd20, a0, a1, a2, a4, a5, a6, a7, a9, a10, a11, a14⟩ := V1.mm.q
    simp only [e102_0, e102_1, e102_4, e102_5, e102_6, e102_7, e102_10, e102_13, e102_16, e102_17, e102_18, e102_21, e102_22, e102_23, e102_24, e102_27, e102_30, e102_33, e102_34, e102_37, e102_38, e102_39, e102_40, e102_43, e102_45, e102_46, e102_47, e102_50, e102_51, e102_54, e102_55, e102_57, e102_58, e102_61, zpush, zopt_some, ↓reduceIte, List.getElem?_cons_succ, List.getElem?_cons_zero, beq_self_eq_true, true_and, and_true, Bool.true_and, Bool.and_true, Bool.false_and, Bool.and_false, nI_1, not_true_eq_false, not_false_eq_true, vp_narI, o0, ↓fd0, ↓fd1, ↓fd2, ↓fd3, ↓fd4, ↓fd5, ↓fd6, ↓fd7, ↓fd8, ↓fd9, ↓fd10, ↓fd11, ↓fd12, ↓fd13, ↓fd14, ↓fd15, ↓fd16, ↓fd17, ↓fd18, ↓fd19, ↓fd20]
    rw [e102_56]
    refine V1.mm.w0 hs (by omega) (fun h2 M2 V2 E2 => ?_)
    obtain ⟨o0, fd0, fd1, fd2, fd3, fd4, fd5, fd6, fd7, fd8, fd9, fd10, fd11, fd12, fd13, fd14, fd15, fd16, fd17, fd18, fd19, fd20, a0, a1, a2, a4, a5, a6, a7, a9, a10, a11, a14⟩ := V2.mm.q
    have e0 : M2 0 = upd g k v := by rw [E2, V1.k 0 rfl, eg]
    simp only [e102_0, e102_1, e102_4, e102_5, e102_6, e102_7, e102_10, e102_13, e102_16, e102_17, e102_18, e102_21, e102_22, e102_23, e102_24, e102_27, e102_30, e102_33, e102_34, e102_37, e102_38, e102_39, e102_40, e102_43, e102_45, e102_46, e102_47, e102_50, e102_51, e102_54, e102_55, e102_57, e102_58, e102_61, zpush, zopt_some, ↓reduceIte, List.getElem?_cons_succ, List.getElem?_cons_zero, beq_self_eq_true, true_and, and_true, Bool.true_and, Bool.and_true, Bool.false_and, Bool.and_false, nI_1, not_true_eq_false, not_false_eq_true, vp_narI, o0, ↓fd0, ↓fd1, ↓fd2, ↓fd3, ↓fd4, ↓fd5, ↓fd6, ↓fd7, ↓fd8, ↓fd9, ↓fd10, ↓fd11, ↓fd12, ↓fd13, ↓fd14, ↓fd15, ↓fd16, ↓fd17, ↓fd18, ↓fd19, ↓fd20]
    refine c_M_findMoves V2.mm hg hb e0 (fun q hq => by rw [V2.k 9 rfl]; exact B1 q (by rw [← h3]; exact hq)) (fun h3 M3 V3 E3 => ?_)
    simp only [e102_0, e102_1, e102_4, e102_5, e102_6, e102_7, e102_10, e102_13, e102_16, e102_17, e102_18, e102_21, e102_22, e102_23, e102_24, e102_27, e102_30, e102_33, e102_34, e102_37, e102_38, e102_39, e102_40, e102_43, e102_45, e102_46, e102_47, e102_50, e102_51, e102_54, e102_55, e102_57, e102_58, e102_61, zpush, zopt_some, ↓reduceIte, List.getElem?_cons_succ, List.getElem?_cons_zero, beq_self_eq_true, true_and, and_true, Bool.true_and, Bool.and_true, Bool.false_and, Bool.and_false, nI_1, not_true_eq_false, not_false_eq_true, vp_narI]
    exact hQ h3 M3 (((V1.mono (T' := [0, 6, 7, 8, 9]) rfl).to V2 rfl).to V3 rfl) E3
  unfold chS at hQ
  by_cases h0 : s = 0
  · subst h0
    by_cases h1 : (1 : Int32) ≤ v ∧ v ≤ 3
    · simp only [h1.1, h1.2, and_self, ↓reduceIte] at hQ
      simp only [e102_0, e102_1, e102_4, e102_5, e102_6, e102_7, e102_10, e102_13, e102_16, e102_17, e102_18, e102_21, e102_22, e102_23, e102_24, e102_27, e102_30, e102_33, e102_34, e102_37, e102_38, e102_39, e102_40, e102_43, e102_45, e102_47, e102_50, e102_51, e102_54, e102_55, e102_56, e102_57, e102_58, e102_61, zpush, zopt_some, ↓reduceIte, List.getElem?_cons_succ, List.getElem?_cons_zero, beq_self_eq_true, true_and, and_true, Bool.true_and, Bool.and_true, Bool.false_and, Bool.and_false, nI_1, not_true_eq_false, not_false_eq_true, vp_narI, c_M_in, in_13, h1.1, h1.2, decide_true, zb_t, (show ¬ (1 : Int32) = 0 by decide), not_false_eq_true]
      have hv : ¬ v < 0 := Int32.not_lt.mpr (Int32.le_trans (by decide) h1.1)
      obtain ⟨c, hc, rfl⟩ := nI_of hv
      have c1 := (nI_leI (a := 1) (by decide) hc).mp h1.1
      have c3 := (nI_leI (b := 3) hc (by decide)).mp h1.2
      exact tail 0 1 (by decide) rfl (zG_cop hg c1 c3) (by unfold gN; rw [upd_n (by decide)]) hQ
    · have e : (decide ((1 : Int32) ≤ v) && decide (v ≤ 3)) = false := by
        rw [← Bool.not_eq_true]; intro h; simp only [Bool.and_eq_true, decide_eq_true_eq] at h; exact h1 h
      rw [if_neg (fun h => h1 h.2), if_neg (fun h => absurd h.1 (by decide))] at hQ
      simp only [e102_0, e102_1, e102_4, e102_5, e102_6, e102_7, e102_10, e102_13, e102_16, e102_17, e102_18, e102_21, e102_22, e102_23, e102_24, e102_27, e102_30, e102_33, e102_34, e102_37, e102_38, e102_39, e102_40, e102_43, e102_45, e102_47, e102_50, e102_51, e102_54, e102_55, e102_56, e102_57, e102_58, e102_61, zpush, zopt_some, ↓reduceIte, List.getElem?_cons_succ, List.getElem?_cons_zero, beq_self_eq_true, true_and, and_true, Bool.true_and, Bool.and_true, Bool.false_and, Bool.and_false, nI_1, not_true_eq_false, not_false_eq_true, vp_narI, c_M_in, in_13, e, zb_f]
      exact hQ h M hM.rf eg
  · rw [if_neg (fun h => h0 h.1)] at hQ
    by_cases h1 : s = 1
    · subst h1
      have e := zin_in (s := v) (H := 999) (n := 1000) rfl
      by_cases h2 : zinb v 1000 = true
      · simp only [h2, and_self, ↓reduceIte] at hQ
        simp only [e102_0, e102_1, e102_4, e102_5, e102_6, e102_7, e102_10, e102_13, e102_16, e102_17, e102_18, e102_21, e102_22, e102_23, e102_24, e102_27, e102_30, e102_33, e102_34, e102_37, e102_38, e102_39, e102_40, e102_43, e102_45, e102_47, e102_50, e102_51, e102_54, e102_55, e102_56, e102_57, e102_58, e102_61, zpush, zopt_some, ↓reduceIte, List.getElem?_cons_succ, List.getElem?_cons_zero, beq_self_eq_true, true_and, and_true, Bool.true_and, Bool.and_true, Bool.false_and, Bool.and_false, nI_1, not_true_eq_false, not_false_eq_true, vp_narI, c_M_in, e, h2, zb_t, (show ¬ (1 : Int32) = 0 by decide), not_false_eq_true]
        obtain ⟨c, hc, rfl⟩ := zinb_ex h2 (by decide)
        exact tail 1 1 (by decide) rfl (zG_salt hg (by omega)) (by unfold gN; rw [upd_n (by decide)]) hQ
      · rw [if_neg (fun h => h2 h.2)] at hQ
        rw [Bool.not_eq_true] at h2
        simp only [e102_0, e102_1, e102_4, e102_5, e102_6, e102_7, e102_10, e102_13, e102_16, e102_17, e102_18, e102_21, e102_22, e102_23, e102_24, e102_27, e102_30, e102_33, e102_34, e102_37, e102_38, e102_39, e102_40, e102_43, e102_45, e102_47, e102_50, e102_51, e102_54, e102_55, e102_56, e102_57, e102_58, e102_61, zpush, zopt_some, ↓reduceIte, List.getElem?_cons_succ, List.getElem?_cons_zero, beq_self_eq_true, true_and, and_true, Bool.true_and, Bool.and_true, Bool.false_and, Bool.and_false, nI_1, not_true_eq_false, not_false_eq_true, vp_narI, c_M_in, e, h2, zb_f, (show ¬ (1 : Int32) = 0 by decide), not_false_eq_true]
        exact hQ h M hM.rf eg
    · rw [if_neg (fun h => h1 h.1)] at hQ
      simp only [e102_0, e102_1, e102_4, e102_5, e102_6, e102_7, e102_10, e102_13, e102_16, e102_17, e102_18, e102_21, e102_22, e102_23, e102_24, e102_27, e102_30, e102_33, e102_34, e102_37, e102_38, e102_39, e102_40, e102_43, e102_45, e102_47, e102_50, e102_51, e102_54, e102_55, e102_56, e102_57, e102_58, e102_61, zpush, zopt_some, ↓reduceIte, List.getElem?_cons_succ, List.getElem?_cons_zero, beq_self_eq_true, true_and, and_true, Bool.true_and, Bool.and_true, Bool.false_and, Bool.and_false, nI_1, not_true_eq_false, not_false_eq_true, vp_narI, h0, h1, not_false_eq_true]
      exact hQ h M hM.rf eg
theorem c_M_doServer {r w : Int32} (hM : zMM h M) (hg : zG g) (eg : M 0 = g) (hQ : ∀ h' M', zMv [0, 6, 7, 8, 9] h M h' M' → M' 0 = (chB g r w).2 → Q (some (.int (chB g r w).1)) (h', z)) :
    Ev 103 0 [.ref 108, .int r, .int w, zU, zU] [] (h, z) Q := by
  obtain ⟨o0, fd0, fd1, fd2, fd3, fd4, fd5, fd6, fd7, fd8, fd9, fd10, fd11, fd12, fd13, fd14, fd15, fd16, fd17, fd18, fd19, fd20, a0, a1, a2, a4, a5, a6, a7, a9, a10, a11, a14⟩ := hM.q
  rw [eg] at a0
  obtain ⟨h2, b2⟩ := hg.2.2.1
  unfold chB at hQ
  by_cases h1 : zinb r 6 = true
  · by_cases h1' : zinb w 17 = true
    · simp only [h1, h1', and_self, ↓reduceIte] at hQ
      obtain ⟨rn, hr, rfl⟩ := zinb_ex h1 (by decide)
      obtain ⟨wn, hw, rfl⟩ := zinb_ex h1' (by decide)
      by_cases h12 : gN g 2 < 12
      · simp only [h12, ↓reduceIte] at hQ
        have e12 : ¬ g 2 = 12 := by
          rw [h2]
          intro e
          have := (nI_eq (a := gN g 2) (b := 12) (by omega) (by decide)).mp e
          omega
        simp only [e103_0, e103_1, e103_4, e103_7, e103_8, e103_11, e103_14, e103_16, e103_17, e103_18, e103_21, e103_22, e103_23, e103_25, e103_28, e103_30, e103_31, e103_32, e103_35, e103_36, e103_39, e103_40, e103_41, e103_42, e103_43, e103_46, e103_47, e103_48, e103_49, e103_51, e103_52, e103_55, e103_57, e103_58, e103_59, e103_60, e103_61, e103_62, e103_65, e103_67, e103_68, e103_69, e103_70, e103_71, e103_72, e103_75, e103_76, e103_77, e103_78, e103_79, e103_80, e103_81, e103_82, e103_85, e103_87, e103_88, zpush, zopt_some, ↓reduceIte, List.getElem?_cons_succ, List.getElem?_cons_zero, beq_self_eq_true, true_and, and_true, Bool.true_and, Bool.and_true, Bool.false_and, Bool.and_false, nI_1, not_true_eq_false, not_false_eq_true, vp_narI, k5, k17, k29, k41, k81, k121, j484_0, cl_0, j484_1, cl_1, j484_2, cl_2, j484_3, cl_3, j484_4, cl_4, o0, ↓fd0, ↓fd1, ↓fd2, ↓fd3, ↓fd4, ↓fd5, ↓fd6, ↓fd7, ↓fd8, ↓fd9, ↓fd10, ↓fd11, ↓fd12, ↓fd13, ↓fd14, ↓fd15, ↓fd16, ↓fd17, ↓fd18, ↓fd19, ↓fd20, ↓a0, c_M_isRack, c_M_isWeight, h1, h1', e12, zb_t, (show ¬ (1 : Int32) = 0 by decide), not_false_eq_true]
        refine c_M_noteBefore hM hg eg (fun h1 M1 V1 B1 => ?_)
        have g1 : M1 0 = g := (V1.k 0 rfl).trans eg
        obtain ⟨o0, fd0, fd1, fd2, fd3, fd4, fd5, fd6, fd7, fd8, fd9, fd10, fd11, fd12, fd13, fd14, fd15, fd16, fd17, fd18, fd19, fd20, a0, a1, a2, a4, a5, a6, a7, a9, a10, a11, a14⟩ := V1.mm.q
        rw [g1] at a0
        simp only [e103_0, e103_1, e103_4, e103_7, e103_8, e103_11, e103_14, e103_16, e103_17, e103_18, e103_21, e103_22, e103_23, e103_25, e103_28, e103_30, e103_31, e103_32, e103_35, e103_36, e103_39, e103_40, e103_41, e103_42, e103_43, e103_46, e103_47, e103_48, e103_49, e103_51, e103_52, e103_55, e103_57, e103_58, e103_59, e103_60, e103_61, e103_62, e103_65, e103_67, e103_68, e103_69, e103_70, e103_71, e103_72, e103_75, e103_76, e103_77, e103_78, e103_79, e103_80, e103_81, e103_82, e103_85, e103_87, e103_88, zpush, zopt_some, ↓reduceIte, List.getElem?_cons_succ, List.getElem?_cons_zero, beq_self_eq_true, true_and, and_true, Bool.true_and, Bool.and_true, Bool.false_and, Bool.and_false, nI_1, not_true_eq_false, not_false_eq_true, vp_narI, k5, k17, k29, k41, k81, k121, j484_0, cl_0, j484_1, cl_1, j484_2, cl_2, j484_3, cl_3, j484_4, cl_4, o0, ↓fd0, ↓fd1, ↓fd2, ↓fd3, ↓fd4, ↓fd5, ↓fd6, ↓fd7, ↓fd8, ↓fd9, ↓fd10, ↓fd11, ↓fd12, ↓fd13, ↓fd14, ↓fd15, ↓fd16, ↓fd17, ↓fd18, ↓fd19, ↓fd20, ↓a0]
        rw [h2]
        simp only [k5, k17, k29, k41, k81, k121, j484_0, cl_0, j484_1, cl_1, j484_2, cl_2, j484_3, cl_3, j484_4, cl_4]
        rw [e103_50]
        refine V1.mm.w0 rfl (by omega) (fun h2' M2 V2 E2 => ?_)
        obtain ⟨o0, fd0, fd1, fd2, fd3, fd4, fd5, fd6, fd7, fd8, fd9, fd10, fd11, fd12, fd13, fd14, fd15, fd16, fd17, fd18, fd19, fd20, a0, a1, a2, a4, a5, a6, a7, a9, a10, a11, a14⟩ := V2.mm.q
        simp only [e103_0, e103_1, e103_4, e103_7, e103_8, e103_11, e103_14, e103_16, e103_17, e103_18, e103_21, e103_22, e103_23, e103_25, e103_28, e103_30, e103_31, e103_32, e103_35, e103_36, e103_39, e103_40, e103_41, e103_42, e103_43, e103_46, e103_47, e103_48, e103_49, e103_50, e103_51, e103_52, e103_55, e103_57, e103_58, e103_59, e103_61, e103_62, e103_65, e103_67, e103_68, e103_69, e103_70, e103_71, e103_72, e103_75, e103_76, e103_77, e103_78, e103_79, e103_80, e103_81, e103_82, e103_85, e103_87, e103_88, zpush, zopt_some, ↓reduceIte, List.getElem?_cons_succ, List.getElem?_cons_zero, beq_self_eq_true, true_and, and_true, Bool.true_and, Bool.and_true, Bool.false_and, Bool.and_false, nI_1, not_true_eq_false, not_false_eq_true, vp_narI, k5, k17, k29, k41, k81, k121, j484_0, cl_0, j484_1, cl_1, j484_2, cl_2, j484_3, cl_3, j484_4, cl_4, o0, ↓fd0, ↓fd1, ↓fd2, ↓fd3, ↓fd4, ↓fd5, ↓fd6, ↓fd7, ↓fd8, ↓fd9, ↓fd10, ↓fd11, ↓fd12, ↓fd13, ↓fd14, ↓fd15, ↓fd16, ↓fd17, ↓fd18, ↓fd19, ↓fd20]
        rw [e103_60]
        refine V2.mm.w0 rfl (by omega) (fun h3 M3 V3 E3 => ?_)
        obtain ⟨o0, fd0, fd1, fd2, fd3, fd4, fd5, fd6, fd7, fd8, fd9, fd10, fd11, fd12, fd13, fd14, fd15, fd16, fd17, fd18, fd19, fd20, a0, a1, a2, a4, a5, a6, a7, a9, a10, a11, a14⟩ := V3.mm.q
        simp only [e103_0, e103_1, e103_4, e103_7, e103_8, e103_11, e103_14, e103_16, e103_17, e103_18, e103_21, e103_22, e103_23, e103_25, e103_28, e103_30, e103_31, e103_32, e103_35, e103_36, e103_39, e103_40, e103_41, e103_42, e103_43, e103_46, e103_47, e103_48, e103_49, e103_50, e103_51, e103_52, e103_55, e103_57, e103_58, e103_59, e103_60, e103_61, e103_62, e103_65, e103_67, e103_68, e103_69, e103_71, e103_72, e103_75, e103_76, e103_77, e103_78, e103_79, e103_80, e103_81, e103_82, e103_85, e103_87, e103_88, zpush, zopt_some, ↓reduceIte, List.getElem?_cons_succ, List.getElem?_cons_zero, beq_self_eq_true, true_and, and_true, Bool.true_and, Bool.and_true, Bool.false_and, Bool.and_false, nI_1, not_true_eq_false, not_false_eq_true, vp_narI, k5, k17, k29, k41, k81, k121, j484_0, cl_0, j484_1, cl_1, j484_2, cl_2, j484_3, cl_3, j484_4, cl_4, o0, ↓fd0, ↓fd1, ↓fd2, ↓fd3, ↓fd4, ↓fd5, ↓fd6, ↓fd7, ↓fd8, ↓fd9, ↓fd10, ↓fd11, ↓fd12, ↓fd13, ↓fd14, ↓fd15, ↓fd16, ↓fd17, ↓fd18, ↓fd19, ↓fd20]
        rw [e103_70]
        refine V3.mm.w0 rfl (by omega) (fun h4 M4 V4 E4 => ?_)
        have e4 : M4 0 2 = nI (gN g 2) := by rw [E4, upd_n (by omega), E3, upd_n (by omega), E2, upd_n (by omega), g1]; exact h2
        obtain ⟨o0, fd0, fd1, fd2, fd3, fd4, fd5, fd6, fd7, fd8, fd9, fd10, fd11, fd12, fd13, fd14, fd15, fd16, fd17, fd18, fd19, fd20, a0, a1, a2, a4, a5, a6, a7, a9, a10, a11, a14⟩ := V4.mm.q
        simp only [e103_0, e103_1, e103_4, e103_7, e103_8, e103_11, e103_14, e103_16, e103_17, e103_18, e103_21, e103_22, e103_23, e103_25, e103_28, e103_30, e103_31, e103_32, e103_35, e103_36, e103_39, e103_40, e103_41, e103_42, e103_43, e103_46, e103_47, e103_48, e103_49, e103_50, e103_51, e103_52, e103_55, e103_57, e103_58, e103_59, e103_60, e103_61, e103_62, e103_65, e103_67, e103_68, e103_69, e103_70, e103_71, e103_72, e103_75, e103_76, e103_77, e103_78, e103_79, e103_81, e103_82, e103_85, e103_87, e103_88, zpush, zopt_some, ↓reduceIte, List.getElem?_cons_succ, List.getElem?_cons_zero, beq_self_eq_true, true_and, and_true, Bool.true_and, Bool.and_true, Bool.false_and, Bool.and_false, nI_1, not_true_eq_false, not_false_eq_true, vp_narI, k5, k17, k29, k41, k81, k121, j484_0, cl_0, j484_1, cl_1, j484_2, cl_2, j484_3, cl_3, j484_4, cl_4, o0, ↓fd0, ↓fd1, ↓fd2, ↓fd3, ↓fd4, ↓fd5, ↓fd6, ↓fd7, ↓fd8, ↓fd9, ↓fd10, ↓fd11, ↓fd12, ↓fd13, ↓fd14, ↓fd15, ↓fd16, ↓fd17, ↓fd18, ↓fd19, ↓fd20, ↓a0, e4]
        rw [e103_80]
        refine V4.mm.w0 (i := 2) rfl (by omega) (fun h5 M5 V5 E5 => ?_)
        have e0 : M5 0 = bldA g (nI rn) (nI wn) := by rw [E5, E4, E3, E2, g1]; rfl
        have e3 : gN (bldA g (nI rn) (nI wn)) 3 = gN g 3 := by
          unfold gN bldA
          rw [upd_n (by decide), upd_n (by omega), upd_n (by omega), upd_n (by omega)]
        obtain ⟨o0, fd0, fd1, fd2, fd3, fd4, fd5, fd6, fd7, fd8, fd9, fd10, fd11, fd12, fd13, fd14, fd15, fd16, fd17, fd18, fd19, fd20, a0, a1, a2, a4, a5, a6, a7, a9, a10, a11, a14⟩ := V5.mm.q
        simp only [e103_0, e103_1, e103_4, e103_7, e103_8, e103_11, e103_14, e103_16, e103_17, e103_18, e103_21, e103_22, e103_23, e103_25, e103_28, e103_30, e103_31, e103_32, e103_35, e103_36, e103_39, e103_40, e103_41, e103_42, e103_43, e103_46, e103_47, e103_48, e103_49, e103_50, e103_51, e103_52, e103_55, e103_57, e103_58, e103_59, e103_60, e103_61, e103_62, e103_65, e103_67, e103_68, e103_69, e103_70, e103_71, e103_72, e103_75, e103_76, e103_77, e103_78, e103_79, e103_81, e103_82, e103_85, e103_87, e103_88, zpush, zopt_some, ↓reduceIte, List.getElem?_cons_succ, List.getElem?_cons_zero, beq_self_eq_true, true_and, and_true, Bool.true_and, Bool.and_true, Bool.false_and, Bool.and_false, nI_1, not_true_eq_false, not_false_eq_true, vp_narI, o0, ↓fd0, ↓fd1, ↓fd2, ↓fd3, ↓fd4, ↓fd5, ↓fd6, ↓fd7, ↓fd8, ↓fd9, ↓fd10, ↓fd11, ↓fd12, ↓fd13, ↓fd14, ↓fd15, ↓fd16, ↓fd17, ↓fd18, ↓fd19, ↓fd20]
        refine c_M_findMoves V5.mm hg (zG_bld hg h12 hr (by omega)) e0 (fun q hq => by rw [V5.k 9 rfl, V4.k 9 rfl, V3.k 9 rfl, V2.k 9 rfl]; exact B1 q (by rw [← e3]; exact hq)) (fun h6 M6 V6 E6 => ?_)
        simp only [e103_0, e103_1, e103_4, e103_7, e103_8, e103_11, e103_14, e103_16, e103_17, e103_18, e103_21, e103_22, e103_23, e103_25, e103_28, e103_30, e103_31, e103_32, e103_35, e103_36, e103_39, e103_40, e103_41, e103_42, e103_43, e103_46, e103_47, e103_48, e103_49, e103_50, e103_51, e103_52, e103_55, e103_57, e103_58, e103_59, e103_60, e103_61, e103_62, e103_65, e103_67, e103_68, e103_69, e103_70, e103_71, e103_72, e103_75, e103_76, e103_77, e103_78, e103_79, e103_81, e103_82, e103_85, e103_87, e103_88, zpush, zopt_some, ↓reduceIte, List.getElem?_cons_succ, List.getElem?_cons_zero, beq_self_eq_true, true_and, and_true, Bool.true_and, Bool.and_true, Bool.false_and, Bool.and_false, nI_1, not_true_eq_false, not_false_eq_true, vp_narI]
        exact hQ h6 M6 ((((((V1.mono (T' := [0, 6, 7, 8, 9]) rfl).to V2 rfl).to V3 rfl).to V4 rfl).to V5 rfl).to V6 rfl) E6
      · have e12 : g 2 = 12 := by rw [h2, show gN g 2 = 12 by omega]; rfl
        simp only [h12, ↓reduceIte] at hQ
        simp only [e103_0, e103_1, e103_4, e103_7, e103_8, e103_11, e103_14, e103_16, e103_17, e103_18, e103_21, e103_22, e103_23, e103_25, e103_28, e103_30, e103_31, e103_32, e103_35, e103_36, e103_39, e103_40, e103_41, e103_42, e103_43, e103_46, e103_47, e103_48, e103_49, e103_50, e103_51, e103_52, e103_55, e103_57, e103_58, e103_59, e103_60, e103_61, e103_62, e103_65, e103_67, e103_68, e103_69, e103_70, e103_71, e103_72, e103_75, e103_76, e103_77, e103_78, e103_79, e103_80, e103_81, e103_82, e103_85, e103_87, e103_88, zpush, zopt_some, ↓reduceIte, List.getElem?_cons_succ, List.getElem?_cons_zero, beq_self_eq_true, true_and, and_true, Bool.true_and, Bool.and_true, Bool.false_and, Bool.and_false, nI_1, not_true_eq_false, not_false_eq_true, vp_narI, k5, k17, k29, k41, k81, k121, j484_0, cl_0, j484_1, cl_1, j484_2, cl_2, j484_3, cl_3, j484_4, cl_4, o0, ↓fd0, ↓fd1, ↓fd2, ↓fd3, ↓fd4, ↓fd5, ↓fd6, ↓fd7, ↓fd8, ↓fd9, ↓fd10, ↓fd11, ↓fd12, ↓fd13, ↓fd14, ↓fd15, ↓fd16, ↓fd17, ↓fd18, ↓fd19, ↓fd20, ↓a0, c_M_isRack, c_M_isWeight, h1, h1', e12, zb_t, (show ¬ (1 : Int32) = 0 by decide), not_false_eq_true]
        exact hQ h M hM.rf eg
    · rw [if_neg (fun h => h1' h.2)] at hQ
      rw [Bool.not_eq_true] at h1'
      simp only [e103_0, e103_1, e103_4, e103_7, e103_8, e103_11, e103_14, e103_16, e103_18, e103_21, e103_22, e103_23, e103_25, e103_28, e103_30, e103_31, e103_32, e103_35, e103_36, e103_39, e103_40, e103_41, e103_42, e103_43, e103_46, e103_47, e103_48, e103_49, e103_50, e103_51, e103_52, e103_55, e103_57, e103_58, e103_59, e103_60, e103_61, e103_62, e103_65, e103_67, e103_68, e103_69, e103_70, e103_71, e103_72, e103_75, e103_76, e103_77, e103_78, e103_79, e103_80, e103_81, e103_82, e103_85, e103_87, e103_88, zpush, zopt_some, ↓reduceIte, List.getElem?_cons_succ, List.getElem?_cons_zero, beq_self_eq_true, true_and, and_true, Bool.true_and, Bool.and_true, Bool.false_and, Bool.and_false, nI_1, not_true_eq_false, not_false_eq_true, vp_narI, c_M_isRack, c_M_isWeight, h1, h1', zb_t, zb_f, (show ¬ (1 : Int32) = 0 by decide)]
      exact hQ h M hM.rf eg
  · rw [if_neg (fun h => h1 h.1)] at hQ
    rw [Bool.not_eq_true] at h1
    simp only [e103_0, e103_1, e103_4, e103_7, e103_8, e103_11, e103_14, e103_16, e103_18, e103_21, e103_22, e103_23, e103_25, e103_28, e103_30, e103_31, e103_32, e103_35, e103_36, e103_39, e103_40, e103_41, e103_42, e103_43, e103_46, e103_47, e103_48, e103_49, e103_50, e103_51, e103_52, e103_55, e103_57, e103_58, e103_59, e103_60, e103_61, e103_62, e103_65, e103_67, e103_68, e103_69, e103_70, e103_71, e103_72, e103_75, e103_76, e103_77, e103_78, e103_79, e103_80, e103_81, e103_82, e103_85, e103_87, e103_88, zpush, zopt_some, ↓reduceIte, List.getElem?_cons_succ, List.getElem?_cons_zero, beq_self_eq_true, true_and, and_true, Bool.true_and, Bool.and_true, Bool.false_and, Bool.and_false, nI_1, not_true_eq_false, not_false_eq_true, vp_narI, c_M_isRack, h1, zb_f]
    exact hQ h M hM.rf eg
theorem c_M_doWeigh {s w : Int32} (hM : zMM h M) (hg : zG g) (eg : M 0 = g) (hQ : ∀ h' M', zMv [0, 6, 7, 8, 9] h M h' M' → M' 0 = (chW g s w).2 → Q (some (.int (chW g s w).1)) (h', z)) :
    Ev 104 0 [.ref 108, .int s, .int w] [] (h, z) Q := by
  have b2 := hg.2.2.1.2
  obtain ⟨o0, fd0, fd1, fd2, fd3, fd4, fd5, fd6, fd7, fd8, fd9, fd10, fd11, fd12, fd13, fd14, fd15, fd16, fd17, fd18, fd19, fd20, a0, a1, a2, a4, a5, a6, a7, a9, a10, a11, a14⟩ := hM.q
  have hV := fun (Q : Option Value → zX → Prop) => c_M_isServer (s := s) (z := z) (Q := Q) hM (by rw [eg]; exact hg)
  rw [eg] at hV
  unfold chW at hQ
  by_cases h1 : zinb s (gN g 2) = true
  · obtain ⟨k, hk, rfl⟩ := zinb_ex h1 (by omega)
    have ek : (nI k).toNatClampNeg = k := nI_clamp (by omega)
    by_cases h2 : zinb w 17 = true
    · simp only [h1, h2, ek, ↓reduceIte] at hQ
      obtain ⟨c, hc, rfl⟩ := zinb_ex h2 (by decide)
      simp only [e104_0, e104_1, e104_2, e104_5, e104_8, e104_9, e104_10, e104_11, e104_14, e104_17, e104_19, e104_20, e104_21, e104_24, e104_25, e104_28, e104_30, e104_31, e104_32, e104_34, e104_35, e104_38, zpush, zopt_some, ↓reduceIte, List.getElem?_cons_succ, List.getElem?_cons_zero, beq_self_eq_true, true_and, and_true, Bool.true_and, Bool.and_true, Bool.false_and, Bool.and_false, nI_1, not_true_eq_false, not_false_eq_true, vp_narI, o0, ↓fd0, ↓fd1, ↓fd2, ↓fd3, ↓fd4, ↓fd5, ↓fd6, ↓fd7, ↓fd8, ↓fd9, ↓fd10, ↓fd11, ↓fd12, ↓fd13, ↓fd14, ↓fd15, ↓fd16, ↓fd17, ↓fd18, ↓fd19, ↓fd20, hV, c_M_isWeight, h1, h2, zb_t, (show ¬ (1 : Int32) = 0 by decide), not_false_eq_true]
      refine c_M_noteBefore hM hg eg (fun h1 M1 V1 B1 => ?_)
      obtain ⟨o0, fd0, fd1, fd2, fd3, fd4, fd5, fd6, fd7, fd8, fd9, fd10, fd11, fd12, fd13, fd14, fd15, fd16, fd17, fd18, fd19, fd20, a0, a1, a2, a4, a5, a6, a7, a9, a10, a11, a14⟩ := V1.mm.q
      simp only [e104_0, e104_1, e104_2, e104_5, e104_8, e104_9, e104_10, e104_11, e104_14, e104_17, e104_19, e104_20, e104_21, e104_24, e104_25, e104_28, e104_30, e104_31, e104_32, e104_34, e104_35, e104_38, zpush, zopt_some, ↓reduceIte, List.getElem?_cons_succ, List.getElem?_cons_zero, beq_self_eq_true, true_and, and_true, Bool.true_and, Bool.and_true, Bool.false_and, Bool.and_false, nI_1, not_true_eq_false, not_false_eq_true, vp_narI, k5, k17, k29, k41, k81, k121, j484_0, cl_0, j484_1, cl_1, j484_2, cl_2, j484_3, cl_3, j484_4, cl_4, o0, ↓fd0, ↓fd1, ↓fd2, ↓fd3, ↓fd4, ↓fd5, ↓fd6, ↓fd7, ↓fd8, ↓fd9, ↓fd10, ↓fd11, ↓fd12, ↓fd13, ↓fd14, ↓fd15, ↓fd16, ↓fd17, ↓fd18, ↓fd19, ↓fd20]
      rw [e104_33]
      refine V1.mm.w0 rfl (by omega) (fun h2 M2 V2 E2 => ?_)
      have e0 : M2 0 = upd g (17 + k) (nI c) := by rw [E2, V1.k 0 rfl, eg]
      obtain ⟨o0, fd0, fd1, fd2, fd3, fd4, fd5, fd6, fd7, fd8, fd9, fd10, fd11, fd12, fd13, fd14, fd15, fd16, fd17, fd18, fd19, fd20, a0, a1, a2, a4, a5, a6, a7, a9, a10, a11, a14⟩ := V2.mm.q
      simp only [e104_0, e104_1, e104_2, e104_5, e104_8, e104_9, e104_10, e104_11, e104_14, e104_17, e104_19, e104_20, e104_21, e104_24, e104_25, e104_28, e104_30, e104_31, e104_32, e104_34, e104_35, e104_38, zpush, zopt_some, ↓reduceIte, List.getElem?_cons_succ, List.getElem?_cons_zero, beq_self_eq_true, true_and, and_true, Bool.true_and, Bool.and_true, Bool.false_and, Bool.and_false, nI_1, not_true_eq_false, not_false_eq_true, vp_narI, o0, ↓fd0, ↓fd1, ↓fd2, ↓fd3, ↓fd4, ↓fd5, ↓fd6, ↓fd7, ↓fd8, ↓fd9, ↓fd10, ↓fd11, ↓fd12, ↓fd13, ↓fd14, ↓fd15, ↓fd16, ↓fd17, ↓fd18, ↓fd19, ↓fd20]
      refine c_M_findMoves V2.mm hg (zG_weigh hg (by omega) (by omega)) e0 (fun q hq => by rw [V2.k 9 rfl]; refine B1 q (by unfold gN at hq ⊢; rw [upd_n (by omega)] at hq; exact hq)) (fun h3 M3 V3 E3 => ?_)
      simp only [e104_0, e104_1, e104_2, e104_5, e104_8, e104_9, e104_10, e104_11, e104_14, e104_17, e104_19, e104_20, e104_21, e104_24, e104_25, e104_28, e104_30, e104_31, e104_32, e104_34, e104_35, e104_38, zpush, zopt_some, ↓reduceIte, List.getElem?_cons_succ, List.getElem?_cons_zero, beq_self_eq_true, true_and, and_true, Bool.true_and, Bool.and_true, Bool.false_and, Bool.and_false, nI_1, not_true_eq_false, not_false_eq_true, vp_narI]
      exact hQ h3 M3 (((V1.mono (T' := [0, 6, 7, 8, 9]) rfl).to V2 rfl).to V3 rfl) E3
    · simp only [h1, h2, ↓reduceIte] at hQ
      rw [Bool.not_eq_true] at h2
      simp only [e104_0, e104_1, e104_2, e104_5, e104_8, e104_9, e104_10, e104_11, e104_14, e104_17, e104_19, e104_21, e104_24, e104_25, e104_28, e104_30, e104_31, e104_32, e104_33, e104_34, e104_35, e104_38, zpush, zopt_some, ↓reduceIte, List.getElem?_cons_succ, List.getElem?_cons_zero, beq_self_eq_true, true_and, and_true, Bool.true_and, Bool.and_true, Bool.false_and, Bool.and_false, nI_1, not_true_eq_false, not_false_eq_true, vp_narI, o0, ↓fd0, ↓fd1, ↓fd2, ↓fd3, ↓fd4, ↓fd5, ↓fd6, ↓fd7, ↓fd8, ↓fd9, ↓fd10, ↓fd11, ↓fd12, ↓fd13, ↓fd14, ↓fd15, ↓fd16, ↓fd17, ↓fd18, ↓fd19, ↓fd20, hV, c_M_isWeight, h1, h2, zb_t, zb_f, (show ¬ (1 : Int32) = 0 by decide), not_false_eq_true]
      exact hQ h M hM.rf eg
  · simp only [h1, ↓reduceIte] at hQ
    rw [Bool.not_eq_true] at h1
    simp only [e104_0, e104_1, e104_2, e104_5, e104_8, e104_9, e104_11, e104_14, e104_17, e104_19, e104_20, e104_21, e104_24, e104_25, e104_28, e104_30, e104_31, e104_32, e104_33, e104_34, e104_35, e104_38, zpush, zopt_some, ↓reduceIte, List.getElem?_cons_succ, List.getElem?_cons_zero, beq_self_eq_true, true_and, and_true, Bool.true_and, Bool.and_true, Bool.false_and, Bool.and_false, nI_1, not_true_eq_false, not_false_eq_true, vp_narI, o0, ↓fd0, ↓fd1, ↓fd2, ↓fd3, ↓fd4, ↓fd5, ↓fd6, ↓fd7, ↓fd8, ↓fd9, ↓fd10, ↓fd11, ↓fd12, ↓fd13, ↓fd14, ↓fd15, ↓fd16, ↓fd17, ↓fd18, ↓fd19, ↓fd20, hV, h1, zb_f]
    exact hQ h M hM.rf eg
theorem c_M_doToRack {s w : Int32} (hM : zMM h M) (hg : zG g) (eg : M 0 = g) (hQ : ∀ h' M', zMv [0, 6, 7, 8, 9] h M h' M' → M' 0 = (chR g s w).2 → Q (some (.int (chR g s w).1)) (h', z)) :
    Ev 105 0 [.ref 108, .int s, .int w] [] (h, z) Q := by
  have b2 := hg.2.2.1.2
  obtain ⟨o0, fd0, fd1, fd2, fd3, fd4, fd5, fd6, fd7, fd8, fd9, fd10, fd11, fd12, fd13, fd14, fd15, fd16, fd17, fd18, fd19, fd20, a0, a1, a2, a4, a5, a6, a7, a9, a10, a11, a14⟩ := hM.q
  have hV := fun (Q : Option Value → zX → Prop) => c_M_isServer (s := s) (z := z) (Q := Q) hM (by rw [eg]; exact hg)
  rw [eg] at hV
  unfold chR at hQ
  by_cases h1 : zinb s (gN g 2) = true
  · obtain ⟨k, hk, rfl⟩ := zinb_ex h1 (by omega)
    have ek : (nI k).toNatClampNeg = k := nI_clamp (by omega)
    by_cases h2 : zinb w 6 = true
    · simp only [h1, h2, ek, ↓reduceIte] at hQ
      obtain ⟨c, hc, rfl⟩ := zinb_ex h2 (by decide)
      simp only [e105_0, e105_1, e105_2, e105_5, e105_8, e105_9, e105_10, e105_11, e105_14, e105_17, e105_19, e105_20, e105_21, e105_24, e105_25, e105_28, e105_29, e105_30, e105_31, e105_33, e105_34, e105_37, zpush, zopt_some, ↓reduceIte, List.getElem?_cons_succ, List.getElem?_cons_zero, beq_self_eq_true, true_and, and_true, Bool.true_and, Bool.and_true, Bool.false_and, Bool.and_false, nI_1, not_true_eq_false, not_false_eq_true, vp_narI, o0, ↓fd0, ↓fd1, ↓fd2, ↓fd3, ↓fd4, ↓fd5, ↓fd6, ↓fd7, ↓fd8, ↓fd9, ↓fd10, ↓fd11, ↓fd12, ↓fd13, ↓fd14, ↓fd15, ↓fd16, ↓fd17, ↓fd18, ↓fd19, ↓fd20, hV, c_M_isRack, h1, h2, zb_t, (show ¬ (1 : Int32) = 0 by decide), not_false_eq_true]
      refine c_M_noteBefore hM hg eg (fun h1 M1 V1 B1 => ?_)
      obtain ⟨o0, fd0, fd1, fd2, fd3, fd4, fd5, fd6, fd7, fd8, fd9, fd10, fd11, fd12, fd13, fd14, fd15, fd16, fd17, fd18, fd19, fd20, a0, a1, a2, a4, a5, a6, a7, a9, a10, a11, a14⟩ := V1.mm.q
      simp only [e105_0, e105_1, e105_2, e105_5, e105_8, e105_9, e105_10, e105_11, e105_14, e105_17, e105_19, e105_20, e105_21, e105_24, e105_25, e105_28, e105_29, e105_30, e105_31, e105_33, e105_34, e105_37, zpush, zopt_some, ↓reduceIte, List.getElem?_cons_succ, List.getElem?_cons_zero, beq_self_eq_true, true_and, and_true, Bool.true_and, Bool.and_true, Bool.false_and, Bool.and_false, nI_1, not_true_eq_false, not_false_eq_true, vp_narI, k5, k17, k29, k41, k81, k121, j484_0, cl_0, j484_1, cl_1, j484_2, cl_2, j484_3, cl_3, j484_4, cl_4, o0, ↓fd0, ↓fd1, ↓fd2, ↓fd3, ↓fd4, ↓fd5, ↓fd6, ↓fd7, ↓fd8, ↓fd9, ↓fd10, ↓fd11, ↓fd12, ↓fd13, ↓fd14, ↓fd15, ↓fd16, ↓fd17, ↓fd18, ↓fd19, ↓fd20]
      rw [e105_32]
      refine V1.mm.w0 rfl (by omega) (fun h2 M2 V2 E2 => ?_)
      have e0 : M2 0 = upd g (5 + k) (nI c) := by rw [E2, V1.k 0 rfl, eg]
      obtain ⟨o0, fd0, fd1, fd2, fd3, fd4, fd5, fd6, fd7, fd8, fd9, fd10, fd11, fd12, fd13, fd14, fd15, fd16, fd17, fd18, fd19, fd20, a0, a1, a2, a4, a5, a6, a7, a9, a10, a11, a14⟩ := V2.mm.q
      simp only [e105_0, e105_1, e105_2, e105_5, e105_8, e105_9, e105_10, e105_11, e105_14, e105_17, e105_19, e105_20, e105_21, e105_24, e105_25, e105_28, e105_29, e105_30, e105_31, e105_33, e105_34, e105_37, zpush, zopt_some, ↓reduceIte, List.getElem?_cons_succ, List.getElem?_cons_zero, beq_self_eq_true, true_and, and_true, Bool.true_and, Bool.and_true, Bool.false_and, Bool.and_false, nI_1, not_true_eq_false, not_false_eq_true, vp_narI, o0, ↓fd0, ↓fd1, ↓fd2, ↓fd3, ↓fd4, ↓fd5, ↓fd6, ↓fd7, ↓fd8, ↓fd9, ↓fd10, ↓fd11, ↓fd12, ↓fd13, ↓fd14, ↓fd15, ↓fd16, ↓fd17, ↓fd18, ↓fd19, ↓fd20]
      refine c_M_findMoves V2.mm hg (zG_rack hg (by omega) hc) e0 (fun q hq => by rw [V2.k 9 rfl]; refine B1 q (by unfold gN at hq ⊢; rw [upd_n (by omega)] at hq; exact hq)) (fun h3 M3 V3 E3 => ?_)
      simp only [e105_0, e105_1, e105_2, e105_5, e105_8, e105_9, e105_10, e105_11, e105_14, e105_17, e105_19, e105_20, e105_21, e105_24, e105_25, e105_28, e105_29, e105_30, e105_31, e105_33, e105_34, e105_37, zpush, zopt_some, ↓reduceIte, List.getElem?_cons_succ, List.getElem?_cons_zero, beq_self_eq_true, true_and, and_true, Bool.true_and, Bool.and_true, Bool.false_and, Bool.and_false, nI_1, not_true_eq_false, not_false_eq_true, vp_narI]
      exact hQ h3 M3 (((V1.mono (T' := [0, 6, 7, 8, 9]) rfl).to V2 rfl).to V3 rfl) E3
    · simp only [h1, h2, ↓reduceIte] at hQ
      rw [Bool.not_eq_true] at h2
      simp only [e105_0, e105_1, e105_2, e105_5, e105_8, e105_9, e105_10, e105_11, e105_14, e105_17, e105_19, e105_21, e105_24, e105_25, e105_28, e105_29, e105_30, e105_31, e105_32, e105_33, e105_34, e105_37, zpush, zopt_some, ↓reduceIte, List.getElem?_cons_succ, List.getElem?_cons_zero, beq_self_eq_true, true_and, and_true, Bool.true_and, Bool.and_true, Bool.false_and, Bool.and_false, nI_1, not_true_eq_false, not_false_eq_true, vp_narI, o0, ↓fd0, ↓fd1, ↓fd2, ↓fd3, ↓fd4, ↓fd5, ↓fd6, ↓fd7, ↓fd8, ↓fd9, ↓fd10, ↓fd11, ↓fd12, ↓fd13, ↓fd14, ↓fd15, ↓fd16, ↓fd17, ↓fd18, ↓fd19, ↓fd20, hV, c_M_isRack, h1, h2, zb_t, zb_f, (show ¬ (1 : Int32) = 0 by decide), not_false_eq_true]
      exact hQ h M hM.rf eg
  · simp only [h1, ↓reduceIte] at hQ
    rw [Bool.not_eq_true] at h1
    simp only [e105_0, e105_1, e105_2, e105_5, e105_8, e105_9, e105_11, e105_14, e105_17, e105_19, e105_20, e105_21, e105_24, e105_25, e105_28, e105_29, e105_30, e105_31, e105_32, e105_33, e105_34, e105_37, zpush, zopt_some, ↓reduceIte, List.getElem?_cons_succ, List.getElem?_cons_zero, beq_self_eq_true, true_and, and_true, Bool.true_and, Bool.and_true, Bool.false_and, Bool.and_false, nI_1, not_true_eq_false, not_false_eq_true, vp_narI, o0, ↓fd0, ↓fd1, ↓fd2, ↓fd3, ↓fd4, ↓fd5, ↓fd6, ↓fd7, ↓fd8, ↓fd9, ↓fd10, ↓fd11, ↓fd12, ↓fd13, ↓fd14, ↓fd15, ↓fd16, ↓fd17, ↓fd18, ↓fd19, ↓fd20, hV, h1, zb_f]
    exact hQ h M hM.rf eg
theorem c_M_doDown {s d : Int32} (hM : zMM h M) (hg : zG g) (hd : d = 0 ∨ d = 1) (eg : M 0 = g) (hQ : ∀ h' M', zMv [0, 6, 7, 8, 9] h M h' M' → M' 0 = (chD g s d).2 → Q (some (.int (chD g s d).1)) (h', z)) :
    Ev 106 0 [.ref 108, .int s, .int d] [] (h, z) Q := by
  have b2 := hg.2.2.1.2
  obtain ⟨o0, fd0, fd1, fd2, fd3, fd4, fd5, fd6, fd7, fd8, fd9, fd10, fd11, fd12, fd13, fd14, fd15, fd16, fd17, fd18, fd19, fd20, a0, a1, a2, a4, a5, a6, a7, a9, a10, a11, a14⟩ := hM.q
  have hV := fun (Q : Option Value → zX → Prop) => c_M_isServer (s := s) (z := z) (Q := Q) hM (by rw [eg]; exact hg)
  rw [eg] at hV a0
  unfold chD at hQ
  by_cases h1 : zinb s (gN g 2) = true
  · obtain ⟨k, hk, rfl⟩ := zinb_ex h1 (by omega)
    have ek : (nI k).toNatClampNeg = k := nI_clamp (by omega)
    have q1 : zinb (nI (29 + k)) 484 = true := zinb_nI (by omega) (by decide)
    have q2 : (nI (29 + k)).toNatClampNeg = 29 + k := nI_clamp (by omega)
    by_cases h2 : g (29 + k) = d
    · simp only [h1, h2, ek, ↓reduceIte] at hQ
      simp only [e106_0, e106_1, e106_2, e106_5, e106_8, e106_9, e106_10, e106_11, e106_14, e106_16, e106_17, e106_18, e106_19, e106_20, e106_23, e106_25, e106_27, e106_30, e106_31, e106_34, e106_36, e106_37, e106_38, e106_39, e106_40, e106_41, e106_44, zpush, zopt_some, ↓reduceIte, List.getElem?_cons_succ, List.getElem?_cons_zero, beq_self_eq_true, true_and, and_true, Bool.true_and, Bool.and_true, Bool.false_and, Bool.and_false, nI_1, not_true_eq_false, not_false_eq_true, vp_narI, k5, k17, k29, k41, k81, k121, j484_0, cl_0, j484_1, cl_1, j484_2, cl_2, j484_3, cl_3, j484_4, cl_4, o0, ↓fd0, ↓fd1, ↓fd2, ↓fd3, ↓fd4, ↓fd5, ↓fd6, ↓fd7, ↓fd8, ↓fd9, ↓fd10, ↓fd11, ↓fd12, ↓fd13, ↓fd14, ↓fd15, ↓fd16, ↓fd17, ↓fd18, ↓fd19, ↓fd20, ↓a0, hV, h1, h2, q1, q2, zb_t, (show ¬ (1 : Int32) = 0 by decide), not_false_eq_true]
      exact hQ h M hM.rf eg
    · simp only [h1, h2, ek, ↓reduceIte] at hQ
      simp only [e106_0, e106_1, e106_2, e106_5, e106_8, e106_9, e106_10, e106_11, e106_14, e106_16, e106_17, e106_18, e106_19, e106_20, e106_23, e106_25, e106_26, e106_27, e106_30, e106_31, e106_34, e106_36, e106_37, e106_38, e106_40, e106_41, e106_44, zpush, zopt_some, ↓reduceIte, List.getElem?_cons_succ, List.getElem?_cons_zero, beq_self_eq_true, true_and, and_true, Bool.true_and, Bool.and_true, Bool.false_and, Bool.and_false, nI_1, not_true_eq_false, not_false_eq_true, vp_narI, k5, k17, k29, k41, k81, k121, j484_0, cl_0, j484_1, cl_1, j484_2, cl_2, j484_3, cl_3, j484_4, cl_4, o0, ↓fd0, ↓fd1, ↓fd2, ↓fd3, ↓fd4, ↓fd5, ↓fd6, ↓fd7, ↓fd8, ↓fd9, ↓fd10, ↓fd11, ↓fd12, ↓fd13, ↓fd14, ↓fd15, ↓fd16, ↓fd17, ↓fd18, ↓fd19, ↓fd20, ↓a0, hV, h1, h2, q1, q2, zb_t, (show ¬ (1 : Int32) = 0 by decide), not_false_eq_true]
      refine c_M_noteBefore hM hg eg (fun h1 M1 V1 B1 => ?_)
      obtain ⟨o0, fd0, fd1, fd2, fd3, fd4, fd5, fd6, fd7, fd8, fd9, fd10, fd11, fd12, fd13, fd14, fd15, fd16, fd17, fd18, fd19, fd20, a0, a1, a2, a4, a5, a6, a7, a9, a10, a11, a14⟩ := V1.mm.q
      simp only [e106_0, e106_1, e106_2, e106_5, e106_8, e106_9, e106_10, e106_11, e106_14, e106_16, e106_17, e106_18, e106_19, e106_20, e106_23, e106_25, e106_26, e106_27, e106_30, e106_31, e106_34, e106_36, e106_37, e106_38, e106_40, e106_41, e106_44, zpush, zopt_some, ↓reduceIte, List.getElem?_cons_succ, List.getElem?_cons_zero, beq_self_eq_true, true_and, and_true, Bool.true_and, Bool.and_true, Bool.false_and, Bool.and_false, nI_1, not_true_eq_false, not_false_eq_true, vp_narI, k5, k17, k29, k41, k81, k121, j484_0, cl_0, j484_1, cl_1, j484_2, cl_2, j484_3, cl_3, j484_4, cl_4, o0, ↓fd0, ↓fd1, ↓fd2, ↓fd3, ↓fd4, ↓fd5, ↓fd6, ↓fd7, ↓fd8, ↓fd9, ↓fd10, ↓fd11, ↓fd12, ↓fd13, ↓fd14, ↓fd15, ↓fd16, ↓fd17, ↓fd18, ↓fd19, ↓fd20]
      rw [e106_39]
      refine V1.mm.w0 rfl (by omega) (fun h2 M2 V2 E2 => ?_)
      have e0 : M2 0 = upd g (29 + k) d := by rw [E2, V1.k 0 rfl, eg]
      obtain ⟨o0, fd0, fd1, fd2, fd3, fd4, fd5, fd6, fd7, fd8, fd9, fd10, fd11, fd12, fd13, fd14, fd15, fd16, fd17, fd18, fd19, fd20, a0, a1, a2, a4, a5, a6, a7, a9, a10, a11, a14⟩ := V2.mm.q
      simp only [e106_0, e106_1, e106_2, e106_5, e106_8, e106_9, e106_10, e106_11, e106_14, e106_16, e106_17, e106_18, e106_19, e106_20, e106_23, e106_25, e106_26, e106_27, e106_30, e106_31, e106_34, e106_36, e106_37, e106_38, e106_40, e106_41, e106_44, zpush, zopt_some, ↓reduceIte, List.getElem?_cons_succ, List.getElem?_cons_zero, beq_self_eq_true, true_and, and_true, Bool.true_and, Bool.and_true, Bool.false_and, Bool.and_false, nI_1, not_true_eq_false, not_false_eq_true, vp_narI, o0, ↓fd0, ↓fd1, ↓fd2, ↓fd3, ↓fd4, ↓fd5, ↓fd6, ↓fd7, ↓fd8, ↓fd9, ↓fd10, ↓fd11, ↓fd12, ↓fd13, ↓fd14, ↓fd15, ↓fd16, ↓fd17, ↓fd18, ↓fd19, ↓fd20]
      refine c_M_findMoves V2.mm hg (zG_down hg (by omega) hd) e0 (fun q hq => by rw [V2.k 9 rfl]; refine B1 q (by unfold gN at hq ⊢; rw [upd_n (by omega)] at hq; exact hq)) (fun h3 M3 V3 E3 => ?_)
      simp only [e106_0, e106_1, e106_2, e106_5, e106_8, e106_9, e106_10, e106_11, e106_14, e106_16, e106_17, e106_18, e106_19, e106_20, e106_23, e106_25, e106_26, e106_27, e106_30, e106_31, e106_34, e106_36, e106_37, e106_38, e106_40, e106_41, e106_44, zpush, zopt_some, ↓reduceIte, List.getElem?_cons_succ, List.getElem?_cons_zero, beq_self_eq_true, true_and, and_true, Bool.true_and, Bool.and_true, Bool.false_and, Bool.and_false, nI_1, not_true_eq_false, not_false_eq_true, vp_narI]
      exact hQ h3 M3 (((V1.mono (T' := [0, 6, 7, 8, 9]) rfl).to V2 rfl).to V3 rfl) E3
  · simp only [h1, ↓reduceIte] at hQ
    rw [Bool.not_eq_true] at h1
    simp only [e106_0, e106_1, e106_2, e106_5, e106_8, e106_9, e106_11, e106_14, e106_16, e106_17, e106_18, e106_19, e106_20, e106_23, e106_25, e106_26, e106_27, e106_30, e106_31, e106_34, e106_36, e106_37, e106_38, e106_39, e106_40, e106_41, e106_44, zpush, zopt_some, ↓reduceIte, List.getElem?_cons_succ, List.getElem?_cons_zero, beq_self_eq_true, true_and, and_true, Bool.true_and, Bool.and_true, Bool.false_and, Bool.and_false, nI_1, not_true_eq_false, not_false_eq_true, vp_narI, o0, ↓fd0, ↓fd1, ↓fd2, ↓fd3, ↓fd4, ↓fd5, ↓fd6, ↓fd7, ↓fd8, ↓fd9, ↓fd10, ↓fd11, ↓fd12, ↓fd13, ↓fd14, ↓fd15, ↓fd16, ↓fd17, ↓fd18, ↓fd19, ↓fd20, hV, h1, zb_f]
    exact hQ h M hM.rf eg
theorem c_M_doPin {o v : Int32} (hM : zMM h M) (hg : zG g) (eg : M 0 = g) (hQ : ∀ h' M', zMv [0, 6, 7, 8, 9] h M h' M' → M' 0 = (chP g o v).2 → Q (some (.int (chP g o v).1)) (h', z)) :
    Ev 109 0 [.ref 108, .int o, .int v, zU] [] (h, z) Q := by
  have b2 := hg.2.2.1.2
  have b3 := hg.2.2.2.1.2
  obtain ⟨o0, fd0, fd1, fd2, fd3, fd4, fd5, fd6, fd7, fd8, fd9, fd10, fd11, fd12, fd13, fd14, fd15, fd16, fd17, fd18, fd19, fd20, a0, a1, a2, a4, a5, a6, a7, a9, a10, a11, a14⟩ := hM.q
  have hV := fun (Q : Option Value → zX → Prop) => c_M_isServer (s := v) (z := z) (Q := Q) hM (by rw [eg]; exact hg)
  have hF := fun (Q : Option Value → zX → Prop) => c_M_placeOf (o := o) (z := z) (Q := Q) hM (by rw [eg]; exact hg)
  rw [eg] at hV hF
  unfold chP at hQ
  by_cases h1 : fnd g o = -6
  · simp only [h1, ↓reduceIte] at hQ
    simp only [e109_0, e109_1, e109_2, e109_5, e109_6, e109_7, e109_9, e109_12, e109_13, e109_15, e109_18, e109_19, e109_20, e109_23, e109_26, e109_27, e109_29, e109_32, e109_33, e109_36, e109_38, e109_39, e109_40, e109_41, e109_42, e109_43, e109_46, zpush, zopt_some, ↓reduceIte, List.getElem?_cons_succ, List.getElem?_cons_zero, beq_self_eq_true, true_and, and_true, Bool.true_and, Bool.and_true, Bool.false_and, Bool.and_false, nI_1, not_true_eq_false, not_false_eq_true, vp_narI, o0, ↓fd0, ↓fd1, ↓fd2, ↓fd3, ↓fd4, ↓fd5, ↓fd6, ↓fd7, ↓fd8, ↓fd9, ↓fd10, ↓fd11, ↓fd12, ↓fd13, ↓fd14, ↓fd15, ↓fd16, ↓fd17, ↓fd18, ↓fd19, ↓fd20, hF, h1]
    exact hQ h M hM.rf eg
  · obtain ⟨k, hk, ok, fk, ck⟩ := fnd_ok hg h1
    have f1 : ¬ nI k = -6 := nI_ne6 (by omega)
    rw [fk] at hF ck hQ
    simp only [f1, ↓reduceIte, ck] at hQ
    have tail : (v = -6 ∨ zinb v (gN g 2) = true) → Ev 109 28 [.ref 108, .int o, .int v, .int (nI k)] [] (h, z) Q := by
      intro h5
      simp only [h5, ↓reduceIte] at hQ
      have h5' : v = -6 ∨ ∃ j, j < gN g 2 ∧ v = nI j := by
        rcases h5 with h5 | h5
        · exact Or.inl h5
        · obtain ⟨c, hc, e⟩ := zinb_ex h5 (by omega); exact Or.inr ⟨c, hc, e⟩
      simp only [e109_0, e109_1, e109_2, e109_5, e109_6, e109_7, e109_9, e109_12, e109_13, e109_15, e109_18, e109_19, e109_20, e109_23, e109_26, e109_27, e109_28, e109_29, e109_32, e109_33, e109_36, e109_38, e109_39, e109_40, e109_42, e109_43, e109_46, zpush, zopt_some, ↓reduceIte, List.getElem?_cons_succ, List.getElem?_cons_zero, beq_self_eq_true, true_and, and_true, Bool.true_and, Bool.and_true, Bool.false_and, Bool.and_false, nI_1, not_true_eq_false, not_false_eq_true, vp_narI, o0, ↓fd0, ↓fd1, ↓fd2, ↓fd3, ↓fd4, ↓fd5, ↓fd6, ↓fd7, ↓fd8, ↓fd9, ↓fd10, ↓fd11, ↓fd12, ↓fd13, ↓fd14, ↓fd15, ↓fd16, ↓fd17, ↓fd18, ↓fd19, ↓fd20]
      refine c_M_noteBefore hM hg eg (fun h1 M1 V1 B1 => ?_)
      obtain ⟨o0, fd0, fd1, fd2, fd3, fd4, fd5, fd6, fd7, fd8, fd9, fd10, fd11, fd12, fd13, fd14, fd15, fd16, fd17, fd18, fd19, fd20, a0, a1, a2, a4, a5, a6, a7, a9, a10, a11, a14⟩ := V1.mm.q
      simp only [e109_0, e109_1, e109_2, e109_5, e109_6, e109_7, e109_9, e109_12, e109_13, e109_15, e109_18, e109_19, e109_20, e109_23, e109_26, e109_27, e109_28, e109_29, e109_32, e109_33, e109_36, e109_38, e109_39, e109_40, e109_42, e109_43, e109_46, zpush, zopt_some, ↓reduceIte, List.getElem?_cons_succ, List.getElem?_cons_zero, beq_self_eq_true, true_and, and_true, Bool.true_and, Bool.and_true, Bool.false_and, Bool.and_false, nI_1, not_true_eq_false, not_false_eq_true, vp_narI, k5, k17, k29, k41, k81, k121, j484_0, cl_0, j484_1, cl_1, j484_2, cl_2, j484_3, cl_3, j484_4, cl_4, o0, ↓fd0, ↓fd1, ↓fd2, ↓fd3, ↓fd4, ↓fd5, ↓fd6, ↓fd7, ↓fd8, ↓fd9, ↓fd10, ↓fd11, ↓fd12, ↓fd13, ↓fd14, ↓fd15, ↓fd16, ↓fd17, ↓fd18, ↓fd19, ↓fd20]
      rw [e109_41]
      refine V1.mm.w0 rfl (by omega) (fun h2 M2 V2 E2 => ?_)
      have e0 : M2 0 = upd g (81 + k) v := by rw [E2, V1.k 0 rfl, eg]
      obtain ⟨o0, fd0, fd1, fd2, fd3, fd4, fd5, fd6, fd7, fd8, fd9, fd10, fd11, fd12, fd13, fd14, fd15, fd16, fd17, fd18, fd19, fd20, a0, a1, a2, a4, a5, a6, a7, a9, a10, a11, a14⟩ := V2.mm.q
      simp only [e109_0, e109_1, e109_2, e109_5, e109_6, e109_7, e109_9, e109_12, e109_13, e109_15, e109_18, e109_19, e109_20, e109_23, e109_26, e109_27, e109_28, e109_29, e109_32, e109_33, e109_36, e109_38, e109_39, e109_40, e109_42, e109_43, e109_46, zpush, zopt_some, ↓reduceIte, List.getElem?_cons_succ, List.getElem?_cons_zero, beq_self_eq_true, true_and, and_true, Bool.true_and, Bool.and_true, Bool.false_and, Bool.and_false, nI_1, not_true_eq_false, not_false_eq_true, vp_narI, o0, ↓fd0, ↓fd1, ↓fd2, ↓fd3, ↓fd4, ↓fd5, ↓fd6, ↓fd7, ↓fd8, ↓fd9, ↓fd10, ↓fd11, ↓fd12, ↓fd13, ↓fd14, ↓fd15, ↓fd16, ↓fd17, ↓fd18, ↓fd19, ↓fd20]
      refine c_M_findMoves V2.mm hg (zG_pin hg (by omega) h5') e0 (fun q hq => by rw [V2.k 9 rfl]; refine B1 q (by unfold gN at hq ⊢; rw [upd_n (by omega)] at hq; exact hq)) (fun h3 M3 V3 E3 => ?_)
      simp only [e109_0, e109_1, e109_2, e109_5, e109_6, e109_7, e109_9, e109_12, e109_13, e109_15, e109_18, e109_19, e109_20, e109_23, e109_26, e109_27, e109_28, e109_29, e109_32, e109_33, e109_36, e109_38, e109_39, e109_40, e109_42, e109_43, e109_46, zpush, zopt_some, ↓reduceIte, List.getElem?_cons_succ, List.getElem?_cons_zero, beq_self_eq_true, true_and, and_true, Bool.true_and, Bool.and_true, Bool.false_and, Bool.and_false, nI_1, not_true_eq_false, not_false_eq_true, vp_narI]
      exact hQ h3 M3 (((V1.mono (T' := [0, 6, 7, 8, 9]) rfl).to V2 rfl).to V3 rfl) E3
    by_cases h6 : v = -6
    · have T := tail (Or.inl h6)
      subst h6
      simp only [e109_0, e109_1, e109_2, e109_5, e109_6, e109_7, e109_9, e109_12, e109_13, e109_15, e109_18, e109_19, e109_20, e109_23, e109_26, e109_27, e109_29, e109_32, e109_33, e109_36, e109_38, e109_39, e109_40, e109_41, e109_42, e109_43, e109_46, zpush, zopt_some, ↓reduceIte, List.getElem?_cons_succ, List.getElem?_cons_zero, beq_self_eq_true, true_and, and_true, Bool.true_and, Bool.and_true, Bool.false_and, Bool.and_false, nI_1, not_true_eq_false, not_false_eq_true, vp_narI, o0, ↓fd0, ↓fd1, ↓fd2, ↓fd3, ↓fd4, ↓fd5, ↓fd6, ↓fd7, ↓fd8, ↓fd9, ↓fd10, ↓fd11, ↓fd12, ↓fd13, ↓fd14, ↓fd15, ↓fd16, ↓fd17, ↓fd18, ↓fd19, ↓fd20, hF, f1]
      exact T
    · by_cases h7 : zinb v (gN g 2) = true
      · have T := tail (Or.inr h7)
        simp only [e109_0, e109_1, e109_2, e109_5, e109_6, e109_7, e109_9, e109_12, e109_13, e109_15, e109_18, e109_19, e109_20, e109_23, e109_26, e109_27, e109_29, e109_32, e109_33, e109_36, e109_38, e109_39, e109_40, e109_41, e109_42, e109_43, e109_46, zpush, zopt_some, ↓reduceIte, List.getElem?_cons_succ, List.getElem?_cons_zero, beq_self_eq_true, true_and, and_true, Bool.true_and, Bool.and_true, Bool.false_and, Bool.and_false, nI_1, not_true_eq_false, not_false_eq_true, vp_narI, o0, ↓fd0, ↓fd1, ↓fd2, ↓fd3, ↓fd4, ↓fd5, ↓fd6, ↓fd7, ↓fd8, ↓fd9, ↓fd10, ↓fd11, ↓fd12, ↓fd13, ↓fd14, ↓fd15, ↓fd16, ↓fd17, ↓fd18, ↓fd19, ↓fd20, hF, hV, f1, h6, h7, zb_t, (show ¬ (1 : Int32) = 0 by decide), not_false_eq_true]
        exact T
      · rw [if_neg (by rw [not_or]; exact ⟨h6, h7⟩)] at hQ
        rw [Bool.not_eq_true] at h7
        simp only [e109_0, e109_1, e109_2, e109_5, e109_6, e109_7, e109_9, e109_12, e109_13, e109_15, e109_18, e109_19, e109_20, e109_23, e109_26, e109_27, e109_29, e109_32, e109_33, e109_36, e109_38, e109_39, e109_40, e109_41, e109_42, e109_43, e109_46, zpush, zopt_some, ↓reduceIte, List.getElem?_cons_succ, List.getElem?_cons_zero, beq_self_eq_true, true_and, and_true, Bool.true_and, Bool.and_true, Bool.false_and, Bool.and_false, nI_1, not_true_eq_false, not_false_eq_true, vp_narI, o0, ↓fd0, ↓fd1, ↓fd2, ↓fd3, ↓fd4, ↓fd5, ↓fd6, ↓fd7, ↓fd8, ↓fd9, ↓fd10, ↓fd11, ↓fd12, ↓fd13, ↓fd14, ↓fd15, ↓fd16, ↓fd17, ↓fd18, ↓fd19, ↓fd20, hF, hV, f1, h6, h7, zb_f]
        exact hQ h M hM.rf eg
end ZC
end
