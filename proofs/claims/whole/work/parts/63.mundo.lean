/-! the model's undo, saving and restoring -/
section
set_option maxRecDepth 100000
/-- the model's slots -/
def zSm (M : Nat → Nat → Int32) (sv : Nat → Int32) (S : Nat → Nat → Int32) : Prop := ∀ i, i < 2 → M 5 i = sv i ∧ (sv i = 0 ∨ sv i = 1) ∧ (sv i = 1 → ∀ k, k < 484 → M 4 (484 * i + k) = S i k)
theorem zSm.k {M M' : Nat → Nat → Int32} {sv : Nat → Int32} {S : Nat → Nat → Int32} (h : zSm M sv S) (h4 : M' 4 = M 4) (h5 : M' 5 = M 5) : zSm M' sv S := fun i hi => ⟨by rw [h5]; exact (h i hi).1, (h i hi).2.1, fun e k hk => by rw [h4]; exact (h i hi).2.2 e k hk⟩
section ZC
variable {h : List zC} {z : Nat × (Nat × (Nat → Int32))} {M : Nat → Nat → Int32} {Q : Option Value → zX → Prop} {n : Nat} {H : Nat → Nat → Int32}
theorem l_M_undo {n : Nat} (hn : n ≤ 5) (h0 : List zC) (M0 : Nat → Nat → Int32) (h3 : M0 3 0 = nI n) (hQ : ∀ h' M', zMv [0] h0 M0 h' M' → (∀ q, q < 484 → M' 0 q = M0 2 (484 * n + q)) → Q (some (.int (nI n))) (h', z)) :
    ∀ (j i : Nat) (h : List zC) (M : Nat → Nat → Int32), i + j = 484 → zMv [0] h0 M0 h M → (∀ q, q < i → M 0 q = M0 2 (484 * n + q)) → Ev 146 22 [.ref 108, .int (nI i)] [] (h, z) Q := by
  intro j
  induction j with
  | zero =>
    intro i h M hi V H
    have hi : i = 484 := by omega
    subst hi
    obtain ⟨o0, fd0, fd1, fd2, fd3, fd4, fd5, fd6, fd7, fd8, fd9, fd10, fd11, fd12, fd13, fd14, fd15, fd16, fd17, fd18, fd19, fd20, a0, a1, a2, a4, a5, a6, a7, a9, a10, a11, a14⟩ := V.mm.q
    have e3 : M 3 0 = nI n := (congrFun (V.k 3 rfl) 0).trans h3
    have e1 : (484 : Int32) ≤ nI 484 := by decide
    rw [e146_22]
    simp only [e146_0, e146_1, e146_4, e146_7, e146_9, e146_10, e146_11, e146_12, e146_15, e146_16, e146_17, e146_20, e146_21, e146_23, e146_26, e146_29, e146_30, e146_33, e146_34, e146_35, e146_38, e146_41, e146_42, e146_45, e146_46, e146_47, e146_48, e146_49, e146_50, e146_53, e146_56, e146_57, e146_60, zpush, zopt_some, ↓reduceIte, List.getElem?_cons_succ, List.getElem?_cons_zero, beq_self_eq_true, true_and, and_true, Bool.true_and, Bool.and_true, Bool.false_and, Bool.and_false, nI_1, not_true_eq_false, not_false_eq_true, vp_narI, o0, ↓fd0, ↓fd1, ↓fd2, ↓fd3, ↓fd4, ↓fd5, ↓fd6, ↓fd7, ↓fd8, ↓fd9, ↓fd10, ↓fd11, ↓fd12, ↓fd13, ↓fd14, ↓fd15, ↓fd16, ↓fd17, ↓fd18, ↓fd19, ↓fd20, e1, e3]
    exact hQ h M V H
  | succ j ih =>
    intro i h M hi V H
    obtain ⟨o0, fd0, fd1, fd2, fd3, fd4, fd5, fd6, fd7, fd8, fd9, fd10, fd11, fd12, fd13, fd14, fd15, fd16, fd17, fd18, fd19, fd20, a0, a1, a2, a4, a5, a6, a7, a9, a10, a11, a14⟩ := V.mm.q
    have e0 : M 3 0 = nI n := (congrFun (V.k 3 rfl) 0).trans h3
    have e1 : ¬ (484 : Int32) ≤ nI i := nI_ge (b := 484) (by omega) (by omega)
    have e2 : zinb (nI (484 * n + i)) 2904 = true := zinb_nI (by omega) (by decide)
    have e3 : (nI (484 * n + i)).toNatClampNeg = 484 * n + i := nI_clamp (by omega)
    rw [e146_22]
    simp only [e146_0, e146_1, e146_4, e146_7, e146_9, e146_10, e146_11, e146_12, e146_15, e146_16, e146_17, e146_20, e146_21, e146_23, e146_26, e146_29, e146_30, e146_33, e146_34, e146_35, e146_38, e146_41, e146_42, e146_45, e146_46, e146_47, e146_48, e146_50, e146_53, e146_56, e146_57, e146_60, zpush, zopt_some, ↓reduceIte, List.getElem?_cons_succ, List.getElem?_cons_zero, beq_self_eq_true, true_and, and_true, Bool.true_and, Bool.and_true, Bool.false_and, Bool.and_false, nI_1, not_true_eq_false, not_false_eq_true, vp_narI, o0, ↓fd0, ↓fd1, ↓fd2, ↓fd3, ↓fd4, ↓fd5, ↓fd6, ↓fd7, ↓fd8, ↓fd9, ↓fd10, ↓fd11, ↓fd12, ↓fd13, ↓fd14, ↓fd15, ↓fd16, ↓fd17, ↓fd18, ↓fd19, ↓fd20, ↓a2, e0, e1, k484m, nI_add, e2, e3]
    rw [e146_49]
    refine V.mm.w0 rfl (by omega) (fun h2 M2 V2 E2 => ?_)
    simp only [e146_0, e146_1, e146_4, e146_7, e146_9, e146_10, e146_11, e146_12, e146_15, e146_16, e146_17, e146_20, e146_21, e146_23, e146_26, e146_29, e146_30, e146_33, e146_34, e146_35, e146_38, e146_41, e146_42, e146_45, e146_46, e146_47, e146_48, e146_50, e146_53, e146_56, e146_57, e146_60, zpush, zopt_some, ↓reduceIte, List.getElem?_cons_succ, List.getElem?_cons_zero, beq_self_eq_true, true_and, and_true, Bool.true_and, Bool.and_true, Bool.false_and, Bool.and_false, nI_1, not_true_eq_false, not_false_eq_true, vp_narI]
    refine ih (i + 1) h2 M2 (by omega) (V.to V2 rfl) (fun q hq => ?_)
    rw [E2]
    by_cases e : q = i
    · subst e; rw [upd_s, V.k 2 rfl]
    · rw [upd_n e]; exact H q (by omega)
theorem c_M_undo (hM : zMM h M) (hH : zHm M n H) (h0 : n = 0 → Q (some (.int (-5))) (h, z)) (hQ : 0 < n → ∀ h' M', zMv [0, 3] h M h' M' → zHm M' (n - 1) H → (∀ k, k < 484 → M' 0 k = H (n - 1) k) → Q (some (.int (nI (n - 1)))) (h', z)) :
    Ev 146 0 [.ref 108, zU] [] (h, z) Q := by
  obtain ⟨o0, fd0, fd1, fd2, fd3, fd4, fd5, fd6, fd7, fd8, fd9, fd10, fd11, fd12, fd13, fd14, fd15, fd16, fd17, fd18, fd19, fd20, a0, a1, a2, a4, a5, a6, a7, a9, a10, a11, a14⟩ := hM.q
  obtain ⟨h3, h6, h2⟩ := id hH
  by_cases hn : n = 0
  · subst hn
    have e1 : nI 0 = 0 := rfl
    simp only [e146_0, e146_1, e146_4, e146_7, e146_9, e146_11, e146_12, e146_15, e146_16, e146_17, e146_20, e146_21, e146_22, e146_23, e146_26, e146_29, e146_30, e146_33, e146_34, e146_35, e146_38, e146_41, e146_42, e146_45, e146_46, e146_47, e146_48, e146_49, e146_50, e146_53, e146_56, e146_57, e146_60, zpush, zopt_some, ↓reduceIte, List.getElem?_cons_succ, List.getElem?_cons_zero, beq_self_eq_true, true_and, and_true, Bool.true_and, Bool.and_true, Bool.false_and, Bool.and_false, nI_1, not_true_eq_false, not_false_eq_true, vp_narI, o0, ↓fd0, ↓fd1, ↓fd2, ↓fd3, ↓fd4, ↓fd5, ↓fd6, ↓fd7, ↓fd8, ↓fd9, ↓fd10, ↓fd11, ↓fd12, ↓fd13, ↓fd14, ↓fd15, ↓fd16, ↓fd17, ↓fd18, ↓fd19, ↓fd20, h3, e1, not_true_eq_false]
    exact h0 rfl
  · have e1 : ¬ nI n = 0 := nI_ne0 (by omega) (by omega)
    have e2 : nI n - 1 = nI (n - 1) := by rw [show n = (n - 1) + 1 by omega, nI_pred, Nat.add_sub_cancel]
    simp only [e146_0, e146_1, e146_4, e146_7, e146_9, e146_10, e146_11, e146_12, e146_15, e146_16, e146_20, e146_21, e146_23, e146_26, e146_29, e146_30, e146_33, e146_34, e146_35, e146_38, e146_41, e146_42, e146_45, e146_46, e146_47, e146_48, e146_49, e146_50, e146_53, e146_56, e146_57, e146_60, zpush, zopt_some, ↓reduceIte, List.getElem?_cons_succ, List.getElem?_cons_zero, beq_self_eq_true, true_and, and_true, Bool.true_and, Bool.and_true, Bool.false_and, Bool.and_false, nI_1, not_true_eq_false, not_false_eq_true, vp_narI, o0, ↓fd0, ↓fd1, ↓fd2, ↓fd3, ↓fd4, ↓fd5, ↓fd6, ↓fd7, ↓fd8, ↓fd9, ↓fd10, ↓fd11, ↓fd12, ↓fd13, ↓fd14, ↓fd15, ↓fd16, ↓fd17, ↓fd18, ↓fd19, ↓fd20, h3, e1, e2, not_false_eq_true]
    rw [e146_17]
    refine hM.p3 (fun h1 M1 V1 E1 => ?_)
    simp only [e146_0, e146_1, e146_4, e146_7, e146_9, e146_10, e146_11, e146_12, e146_15, e146_16, e146_20, e146_21, e146_23, e146_26, e146_29, e146_30, e146_33, e146_34, e146_35, e146_38, e146_41, e146_42, e146_45, e146_46, e146_47, e146_48, e146_49, e146_50, e146_53, e146_56, e146_57, e146_60, zpush, zopt_some, ↓reduceIte, List.getElem?_cons_succ, List.getElem?_cons_zero, beq_self_eq_true, true_and, and_true, Bool.true_and, Bool.and_true, Bool.false_and, Bool.and_false, nI_1, not_true_eq_false, not_false_eq_true, vp_narI]
    refine l_M_undo (n := n - 1) (by omega) h1 M1 E1 (fun h2' M2 V2 E2 => ?_) 484 0 h1 M1 (by omega) V1.mm.rf (fun q hq => absurd hq (by omega))
    refine hQ (by omega) h2' M2 ((V1.mono (T' := [0, 3]) rfl).to V2 rfl) ⟨(congrFun (V2.k 3 rfl) 0).trans E1, by omega, fun j hj k hk => by rw [V2.k 2 rfl, V1.k 2 rfl]; exact h2 j (by omega) k hk⟩ (fun k hk => by rw [E2 k hk, V1.k 2 rfl]; exact h2 (n - 1) (by omega) k hk)
theorem l_M_save {s : Nat} (hs : s < 2) (h0 : List zC) (M0 : Nat → Nat → Int32) (hQ : ∀ h' M', zMv [4] h0 M0 h' M' → (∀ q, q < 484 → M' 4 (484 * s + q) = M0 0 q) → (∀ q, q < 484 * s ∨ 484 * s + 484 ≤ q → M' 4 q = M0 4 q) → Ev 147 46 [.ref 108, .int (nI s), .int (nI 484)] [] (h', z) Q) :
    ∀ (j i : Nat) (h : List zC) (M : Nat → Nat → Int32), i + j = 484 → zMv [4] h0 M0 h M → (∀ q, q < i → M 4 (484 * s + q) = M0 0 q) → (∀ q, q < 484 * s ∨ 484 * s + 484 ≤ q → M 4 q = M0 4 q) → Ev 147 15 [.ref 108, .int (nI s), .int (nI i)] [] (h, z) Q := by
  intro j
  induction j with
  | zero =>
    intro i h M hi V H H2
    have hi : i = 484 := by omega
    subst hi
    have e1 : (484 : Int32) ≤ nI 484 := by decide
    rw [e147_15]
    simp only [e147_0, e147_1, e147_2, e147_3, e147_4, e147_7, e147_10, e147_12, e147_13, e147_14, e147_16, e147_19, e147_22, e147_23, e147_26, e147_29, e147_30, e147_31, e147_32, e147_33, e147_34, e147_37, e147_38, e147_39, e147_40, e147_43, e147_47, e147_50, e147_51, e147_52, e147_53, e147_54, e147_57, e147_58, e147_59, zpush, zopt_some, ↓reduceIte, List.getElem?_cons_succ, List.getElem?_cons_zero, beq_self_eq_true, true_and, and_true, Bool.true_and, Bool.and_true, Bool.false_and, Bool.and_false, nI_1, not_true_eq_false, not_false_eq_true, vp_narI, e1]
    exact hQ h M V H H2
  | succ j ih =>
    intro i h M hi V H H2
    obtain ⟨o0, fd0, fd1, fd2, fd3, fd4, fd5, fd6, fd7, fd8, fd9, fd10, fd11, fd12, fd13, fd14, fd15, fd16, fd17, fd18, fd19, fd20, a0, a1, a2, a4, a5, a6, a7, a9, a10, a11, a14⟩ := V.mm.q
    have e1 : ¬ (484 : Int32) ≤ nI i := nI_ge (b := 484) (by omega) (by omega)
    have e2 : zinb (nI i) 484 = true := zinb_nI (by omega) (by decide)
    have e3 : (nI i).toNatClampNeg = i := nI_clamp (by omega)
    rw [e147_15]
    simp only [e147_0, e147_1, e147_2, e147_3, e147_4, e147_7, e147_10, e147_12, e147_13, e147_14, e147_16, e147_19, e147_22, e147_23, e147_26, e147_29, e147_30, e147_31, e147_32, e147_33, e147_34, e147_37, e147_38, e147_40, e147_43, e147_46, e147_47, e147_50, e147_51, e147_52, e147_53, e147_54, e147_57, e147_58, e147_59, zpush, zopt_some, ↓reduceIte, List.getElem?_cons_succ, List.getElem?_cons_zero, beq_self_eq_true, true_and, and_true, Bool.true_and, Bool.and_true, Bool.false_and, Bool.and_false, nI_1, not_true_eq_false, not_false_eq_true, vp_narI, o0, ↓fd0, ↓fd1, ↓fd2, ↓fd3, ↓fd4, ↓fd5, ↓fd6, ↓fd7, ↓fd8, ↓fd9, ↓fd10, ↓fd11, ↓fd12, ↓fd13, ↓fd14, ↓fd15, ↓fd16, ↓fd17, ↓fd18, ↓fd19, ↓fd20, ↓a0, e1, k484m, nI_add, e2, e3]
    rw [e147_39]
    refine V.mm.w4 rfl (by omega) (fun h2 M2 V2 E2 => ?_)
    simp only [e147_0, e147_1, e147_2, e147_3, e147_4, e147_7, e147_10, e147_12, e147_13, e147_14, e147_16, e147_19, e147_22, e147_23, e147_26, e147_29, e147_30, e147_31, e147_32, e147_33, e147_34, e147_37, e147_38, e147_40, e147_43, e147_46, e147_47, e147_50, e147_51, e147_52, e147_53, e147_54, e147_57, e147_58, e147_59, zpush, zopt_some, ↓reduceIte, List.getElem?_cons_succ, List.getElem?_cons_zero, beq_self_eq_true, true_and, and_true, Bool.true_and, Bool.and_true, Bool.false_and, Bool.and_false, nI_1, not_true_eq_false, not_false_eq_true, vp_narI]
    refine ih (i + 1) h2 M2 (by omega) (V.to V2 rfl) (fun q hq => ?_) (fun q hq => ?_)
    · rw [E2]
      by_cases e : q = i
      · subst e; rw [upd_s, V.k 0 rfl]
      · rw [upd_n (by omega)]; exact H q (by omega)
    · rw [E2, upd_n (by omega)]; exact H2 q hq
theorem c_M_save {s : Int32} {sv : Nat → Int32} {S : Nat → Nat → Int32} (hM : zMM h M) (hS : zSm M sv S) (h0 : zinb s 2 = false → Q (some (.int (-2))) (h, z)) (hQ : zinb s 2 = true → ∀ h' M', zMv [4, 5] h M h' M' → zSm M' (upd sv s.toNatClampNeg 1) (fun i => if i = s.toNatClampNeg then M 0 else S i) → Q (some (.int (M 0 3))) (h', z)) :
    Ev 147 0 [.ref 108, .int s, zU] [] (h, z) Q := by
  obtain ⟨o0, fd0, fd1, fd2, fd3, fd4, fd5, fd6, fd7, fd8, fd9, fd10, fd11, fd12, fd13, fd14, fd15, fd16, fd17, fd18, fd19, fd20, a0, a1, a2, a4, a5, a6, a7, a9, a10, a11, a14⟩ := hM.q
  have e' := zin_in (s := s) (H := 1) (n := 2) rfl
  have n1 : ¬ (1 : Int32) = 0 := by decide
  by_cases hz : zinb s 2 = true
  · have hQ := hQ hz
    obtain ⟨k, hk, rfl⟩ := zinb_ex hz (by decide)
    have ek : (nI k).toNatClampNeg = k := nI_clamp (by omega)
    rw [ek] at hQ
    simp only [e147_0, e147_1, e147_2, e147_3, e147_4, e147_7, e147_10, e147_12, e147_13, e147_14, e147_16, e147_19, e147_22, e147_23, e147_26, e147_29, e147_30, e147_31, e147_32, e147_33, e147_34, e147_37, e147_38, e147_39, e147_40, e147_43, e147_46, e147_47, e147_50, e147_51, e147_52, e147_53, e147_54, e147_57, e147_58, e147_59, zpush, zopt_some, ↓reduceIte, List.getElem?_cons_succ, List.getElem?_cons_zero, beq_self_eq_true, true_and, and_true, Bool.true_and, Bool.and_true, Bool.false_and, Bool.and_false, nI_1, not_true_eq_false, not_false_eq_true, vp_narI, c_M_in, e', hz, zb_t, n1, not_false_eq_true]
    refine l_M_save hk h M (fun h2 M2 V2 A2 B2 => ?_) 484 0 h M (by omega) hM.rf (fun q hq => absurd hq (by omega)) (fun q _ => rfl)
    obtain ⟨o0, fd0, fd1, fd2, fd3, fd4, fd5, fd6, fd7, fd8, fd9, fd10, fd11, fd12, fd13, fd14, fd15, fd16, fd17, fd18, fd19, fd20, a0, a1, a2, a4, a5, a6, a7, a9, a10, a11, a14⟩ := V2.mm.q
    rw [e147_46]
    simp only [e147_0, e147_1, e147_2, e147_3, e147_4, e147_7, e147_10, e147_12, e147_13, e147_14, e147_16, e147_19, e147_22, e147_23, e147_26, e147_29, e147_30, e147_31, e147_32, e147_33, e147_34, e147_37, e147_38, e147_39, e147_40, e147_43, e147_47, e147_50, e147_51, e147_53, e147_54, e147_57, e147_58, e147_59, zpush, zopt_some, ↓reduceIte, List.getElem?_cons_succ, List.getElem?_cons_zero, beq_self_eq_true, true_and, and_true, Bool.true_and, Bool.and_true, Bool.false_and, Bool.and_false, nI_1, not_true_eq_false, not_false_eq_true, vp_narI, o0, ↓fd0, ↓fd1, ↓fd2, ↓fd3, ↓fd4, ↓fd5, ↓fd6, ↓fd7, ↓fd8, ↓fd9, ↓fd10, ↓fd11, ↓fd12, ↓fd13, ↓fd14, ↓fd15, ↓fd16, ↓fd17, ↓fd18, ↓fd19, ↓fd20]
    rw [e147_52]
    refine V2.mm.w5 rfl hk (fun h3 M3 V3 E3 => ?_)
    have W3 := (V2.mono (T' := [4, 5]) rfl).to V3 rfl
    obtain ⟨o0, fd0, fd1, fd2, fd3, fd4, fd5, fd6, fd7, fd8, fd9, fd10, fd11, fd12, fd13, fd14, fd15, fd16, fd17, fd18, fd19, fd20, a0, a1, a2, a4, a5, a6, a7, a9, a10, a11, a14⟩ := V3.mm.q
    rw [W3.k 0 rfl] at a0
    simp only [e147_0, e147_1, e147_2, e147_3, e147_4, e147_7, e147_10, e147_12, e147_13, e147_14, e147_16, e147_19, e147_22, e147_23, e147_26, e147_29, e147_30, e147_31, e147_32, e147_33, e147_34, e147_37, e147_38, e147_39, e147_40, e147_43, e147_47, e147_50, e147_51, e147_52, e147_53, e147_54, e147_57, e147_58, e147_59, zpush, zopt_some, ↓reduceIte, List.getElem?_cons_succ, List.getElem?_cons_zero, beq_self_eq_true, true_and, and_true, Bool.true_and, Bool.and_true, Bool.false_and, Bool.and_false, nI_1, not_true_eq_false, not_false_eq_true, vp_narI, k5, k17, k29, k41, k81, k121, j484_0, cl_0, j484_1, cl_1, j484_2, cl_2, j484_3, cl_3, j484_4, cl_4, o0, ↓fd0, ↓fd1, ↓fd2, ↓fd3, ↓fd4, ↓fd5, ↓fd6, ↓fd7, ↓fd8, ↓fd9, ↓fd10, ↓fd11, ↓fd12, ↓fd13, ↓fd14, ↓fd15, ↓fd16, ↓fd17, ↓fd18, ↓fd19, ↓fd20, ↓a0]
    refine hQ h3 M3 W3 (fun i hi => ?_)
    by_cases e : i = k
    · subst e
      refine ⟨by rw [E3, upd_s, upd_s], Or.inr (upd_s _ _ _), fun _ q hq => ?_⟩
      dsimp only
      rw [if_pos rfl, V3.k 4 rfl]
      exact A2 q hq
    · refine ⟨by rw [E3, upd_n e, upd_n e, V2.k 5 rfl]; exact (hS i hi).1, by rw [upd_n e]; exact (hS i hi).2.1, fun h1 q hq => ?_⟩
      rw [upd_n e] at h1
      dsimp only
      rw [if_neg e, V3.k 4 rfl, B2 _ (by omega)]
      exact (hS i hi).2.2 h1 q hq
  · rw [Bool.not_eq_true] at hz
    simp only [e147_0, e147_1, e147_2, e147_3, e147_4, e147_7, e147_10, e147_12, e147_14, e147_15, e147_16, e147_19, e147_22, e147_23, e147_26, e147_29, e147_30, e147_31, e147_32, e147_33, e147_34, e147_37, e147_38, e147_39, e147_40, e147_43, e147_46, e147_47, e147_50, e147_51, e147_52, e147_53, e147_54, e147_57, e147_58, e147_59, zpush, zopt_some, ↓reduceIte, List.getElem?_cons_succ, List.getElem?_cons_zero, beq_self_eq_true, true_and, and_true, Bool.true_and, Bool.and_true, Bool.false_and, Bool.and_false, nI_1, not_true_eq_false, not_false_eq_true, vp_narI, c_M_in, e', hz, zb_f, not_true_eq_false]
    exact h0 hz
theorem l_M_restore {s : Nat} (hs : s < 2) (h0 : List zC) (M0 : Nat → Nat → Int32) (hQ : ∀ h' M', zMv [0] h0 M0 h' M' → (∀ q, q < 484 → M' 0 q = M0 4 (484 * s + q)) → Ev 148 62 [.ref 108, .int (nI s), .int (nI 484)] [] (h', z) Q) :
    ∀ (j i : Nat) (h : List zC) (M : Nat → Nat → Int32), i + j = 484 → zMv [0] h0 M0 h M → (∀ q, q < i → M 0 q = M0 4 (484 * s + q)) → Ev 148 31 [.ref 108, .int (nI s), .int (nI i)] [] (h, z) Q := by
  intro j
  induction j with
  | zero =>
    intro i h M hi V H
    have hi : i = 484 := by omega
    subst hi
    have e1 : (484 : Int32) ≤ nI 484 := by decide
    rw [e148_31]
    simp only [e148_0, e148_1, e148_2, e148_3, e148_4, e148_7, e148_10, e148_12, e148_13, e148_14, e148_17, e148_18, e148_19, e148_22, e148_24, e148_25, e148_26, e148_29, e148_30, e148_32, e148_35, e148_38, e148_39, e148_42, e148_43, e148_44, e148_47, e148_50, e148_51, e148_52, e148_53, e148_54, e148_55, e148_56, e148_59, e148_63, e148_64, e148_67, e148_68, e148_69, e148_72, zpush, zopt_some, ↓reduceIte, List.getElem?_cons_succ, List.getElem?_cons_zero, beq_self_eq_true, true_and, and_true, Bool.true_and, Bool.and_true, Bool.false_and, Bool.and_false, nI_1, not_true_eq_false, not_false_eq_true, vp_narI, e1]
    exact hQ h M V H
  | succ j ih =>
    intro i h M hi V H
    obtain ⟨o0, fd0, fd1, fd2, fd3, fd4, fd5, fd6, fd7, fd8, fd9, fd10, fd11, fd12, fd13, fd14, fd15, fd16, fd17, fd18, fd19, fd20, a0, a1, a2, a4, a5, a6, a7, a9, a10, a11, a14⟩ := V.mm.q
    have e1 : ¬ (484 : Int32) ≤ nI i := nI_ge (b := 484) (by omega) (by omega)
    have e2 : zinb (nI (484 * s + i)) 968 = true := zinb_nI (by omega) (by decide)
    have e3 : (nI (484 * s + i)).toNatClampNeg = 484 * s + i := nI_clamp (by omega)
    rw [e148_31]
    simp only [e148_0, e148_1, e148_2, e148_3, e148_4, e148_7, e148_10, e148_12, e148_13, e148_14, e148_17, e148_18, e148_19, e148_22, e148_24, e148_25, e148_26, e148_29, e148_30, e148_32, e148_35, e148_38, e148_39, e148_42, e148_43, e148_44, e148_47, e148_50, e148_51, e148_52, e148_53, e148_54, e148_56, e148_59, e148_62, e148_63, e148_64, e148_67, e148_68, e148_69, e148_72, zpush, zopt_some, ↓reduceIte, List.getElem?_cons_succ, List.getElem?_cons_zero, beq_self_eq_true, true_and, and_true, Bool.true_and, Bool.and_true, Bool.false_and, Bool.and_false, nI_1, not_true_eq_false, not_false_eq_true, vp_narI, o0, ↓fd0, ↓fd1, ↓fd2, ↓fd3, ↓fd4, ↓fd5, ↓fd6, ↓fd7, ↓fd8, ↓fd9, ↓fd10, ↓fd11, ↓fd12, ↓fd13, ↓fd14, ↓fd15, ↓fd16, ↓fd17, ↓fd18, ↓fd19, ↓fd20, ↓a4, e1, k484m, nI_add, e2, e3]
    rw [e148_55]
    refine V.mm.w0 rfl (by omega) (fun h2 M2 V2 E2 => ?_)
    simp only [e148_0, e148_1, e148_2, e148_3, e148_4, e148_7, e148_10, e148_12, e148_13, e148_14, e148_17, e148_18, e148_19, e148_22, e148_24, e148_25, e148_26, e148_29, e148_30, e148_32, e148_35, e148_38, e148_39, e148_42, e148_43, e148_44, e148_47, e148_50, e148_51, e148_52, e148_53, e148_54, e148_56, e148_59, e148_62, e148_63, e148_64, e148_67, e148_68, e148_69, e148_72, zpush, zopt_some, ↓reduceIte, List.getElem?_cons_succ, List.getElem?_cons_zero, beq_self_eq_true, true_and, and_true, Bool.true_and, Bool.and_true, Bool.false_and, Bool.and_false, nI_1, not_true_eq_false, not_false_eq_true, vp_narI]
    refine ih (i + 1) h2 M2 (by omega) (V.to V2 rfl) (fun q hq => ?_)
    rw [E2]
    by_cases e : q = i
    · subst e; rw [upd_s, V.k 4 rfl]
    · rw [upd_n e]; exact H q (by omega)
theorem c_M_restore {s : Int32} {sv : Nat → Int32} {S : Nat → Nat → Int32} (hM : zMM h M) (hH : zHm M n H) (hS : zSm M sv S) (h0 : zinb s 2 = false → Q (some (.int (-2))) (h, z)) (h00 : zinb s 2 = true → sv s.toNatClampNeg = 0 → Q (some (.int (-5))) (h, z))
    (hQ : zinb s 2 = true → sv s.toNatClampNeg = 1 → ∀ h' M', zMv [0, 1, 2, 3] h M h' M' → (∀ k, k < 484 → M' 0 k = S s.toNatClampNeg k) → zHm M' (recN (S s.toNatClampNeg 3) n) (recH (S s.toNatClampNeg 3) n H (M 0)) → Q (some (.int (S s.toNatClampNeg 3))) (h', z)) :
    Ev 148 0 [.ref 108, .int s, zU] [] (h, z) Q := by
  obtain ⟨o0, fd0, fd1, fd2, fd3, fd4, fd5, fd6, fd7, fd8, fd9, fd10, fd11, fd12, fd13, fd14, fd15, fd16, fd17, fd18, fd19, fd20, a0, a1, a2, a4, a5, a6, a7, a9, a10, a11, a14⟩ := hM.q
  have e' := zin_in (s := s) (H := 1) (n := 2) rfl
  have n1 : ¬ (1 : Int32) = 0 := by decide
  by_cases hz : zinb s 2 = true
  · have hQ := hQ hz
    have h00 := h00 hz
    obtain ⟨k, hk, rfl⟩ := zinb_ex hz (by decide)
    have ek : (nI k).toNatClampNeg = k := nI_clamp (by omega)
    have ek2 : zinb (nI k) 2 = true := hz
    rw [ek] at hQ h00
    obtain ⟨s1, s2, s3⟩ := hS k hk
    rcases s2 with s2 | s2
    · rw [s2] at s1
      simp only [e148_0, e148_1, e148_2, e148_3, e148_4, e148_7, e148_10, e148_12, e148_13, e148_14, e148_17, e148_18, e148_19, e148_22, e148_24, e148_26, e148_29, e148_30, e148_31, e148_32, e148_35, e148_38, e148_39, e148_42, e148_43, e148_44, e148_47, e148_50, e148_51, e148_52, e148_53, e148_54, e148_55, e148_56, e148_59, e148_62, e148_63, e148_64, e148_67, e148_68, e148_69, e148_72, zpush, zopt_some, ↓reduceIte, List.getElem?_cons_succ, List.getElem?_cons_zero, beq_self_eq_true, true_and, and_true, Bool.true_and, Bool.and_true, Bool.false_and, Bool.and_false, nI_1, not_true_eq_false, not_false_eq_true, vp_narI, o0, ↓fd0, ↓fd1, ↓fd2, ↓fd3, ↓fd4, ↓fd5, ↓fd6, ↓fd7, ↓fd8, ↓fd9, ↓fd10, ↓fd11, ↓fd12, ↓fd13, ↓fd14, ↓fd15, ↓fd16, ↓fd17, ↓fd18, ↓fd19, ↓fd20, ↓a5, c_M_in, e', hz, ek, ek2, s1, zb_t, n1, not_false_eq_true, not_true_eq_false]
      exact h00 s2
    · have hQ := hQ s2
      have s3 := s3 s2
      rw [s2] at s1
      simp only [e148_0, e148_1, e148_2, e148_3, e148_4, e148_7, e148_10, e148_12, e148_13, e148_14, e148_17, e148_18, e148_19, e148_22, e148_24, e148_25, e148_26, e148_29, e148_30, e148_32, e148_35, e148_38, e148_39, e148_42, e148_43, e148_44, e148_47, e148_50, e148_51, e148_52, e148_53, e148_54, e148_55, e148_56, e148_59, e148_62, e148_63, e148_64, e148_67, e148_68, e148_69, e148_72, zpush, zopt_some, ↓reduceIte, List.getElem?_cons_succ, List.getElem?_cons_zero, beq_self_eq_true, true_and, and_true, Bool.true_and, Bool.and_true, Bool.false_and, Bool.and_false, nI_1, not_true_eq_false, not_false_eq_true, vp_narI, o0, ↓fd0, ↓fd1, ↓fd2, ↓fd3, ↓fd4, ↓fd5, ↓fd6, ↓fd7, ↓fd8, ↓fd9, ↓fd10, ↓fd11, ↓fd12, ↓fd13, ↓fd14, ↓fd15, ↓fd16, ↓fd17, ↓fd18, ↓fd19, ↓fd20, ↓a5, c_M_in, e', hz, ek, ek2, s1, zb_t, n1, not_false_eq_true]
      refine c_M_keep hM (fun h1 M1 V1 E1 => ?_)
      simp only [e148_0, e148_1, e148_2, e148_3, e148_4, e148_7, e148_10, e148_12, e148_13, e148_14, e148_17, e148_18, e148_19, e148_22, e148_24, e148_25, e148_26, e148_29, e148_30, e148_32, e148_35, e148_38, e148_39, e148_42, e148_43, e148_44, e148_47, e148_50, e148_51, e148_52, e148_53, e148_54, e148_55, e148_56, e148_59, e148_62, e148_63, e148_64, e148_67, e148_68, e148_69, e148_72, zpush, zopt_some, ↓reduceIte, List.getElem?_cons_succ, List.getElem?_cons_zero, beq_self_eq_true, true_and, and_true, Bool.true_and, Bool.and_true, Bool.false_and, Bool.and_false, nI_1, not_true_eq_false, not_false_eq_true, vp_narI]
      refine l_M_restore hk h1 M1 (fun h2 M2 V2 A2 => ?_) 484 0 h1 M1 (by omega) V1.mm.rf (fun q hq => absurd hq (by omega))
      have W2 := (V1.mono (T' := [0, 1, 2, 3]) rfl).to V2 rfl
      obtain ⟨o0, fd0, fd1, fd2, fd3, fd4, fd5, fd6, fd7, fd8, fd9, fd10, fd11, fd12, fd13, fd14, fd15, fd16, fd17, fd18, fd19, fd20, a0, a1, a2, a4, a5, a6, a7, a9, a10, a11, a14⟩ := V2.mm.q
      have e0 : ∀ q, q < 484 → M2 0 q = S k q := fun q hq => by rw [A2 q hq, V1.k 4 rfl]; exact s3 q hq
      have e3 : M2 0 3 = S k 3 := e0 3 (by decide)
      rw [e148_62]
      simp only [e148_0, e148_1, e148_2, e148_3, e148_4, e148_7, e148_10, e148_12, e148_13, e148_14, e148_17, e148_18, e148_19, e148_22, e148_24, e148_25, e148_26, e148_29, e148_30, e148_32, e148_35, e148_38, e148_39, e148_42, e148_43, e148_44, e148_47, e148_50, e148_51, e148_52, e148_53, e148_54, e148_55, e148_56, e148_59, e148_63, e148_64, e148_67, e148_68, e148_69, e148_72, zpush, zopt_some, ↓reduceIte, List.getElem?_cons_succ, List.getElem?_cons_zero, beq_self_eq_true, true_and, and_true, Bool.true_and, Bool.and_true, Bool.false_and, Bool.and_false, nI_1, not_true_eq_false, not_false_eq_true, vp_narI, k5, k17, k29, k41, k81, k121, j484_0, cl_0, j484_1, cl_1, j484_2, cl_2, j484_3, cl_3, j484_4, cl_4, o0, ↓fd0, ↓fd1, ↓fd2, ↓fd3, ↓fd4, ↓fd5, ↓fd6, ↓fd7, ↓fd8, ↓fd9, ↓fd10, ↓fd11, ↓fd12, ↓fd13, ↓fd14, ↓fd15, ↓fd16, ↓fd17, ↓fd18, ↓fd19, ↓fd20, ↓a0, e3]
      refine c_M_chg (a := M 0) V2.mm (hH.k (by rw [V2.k 2 rfl, V1.k 2 rfl]) (by rw [V2.k 3 rfl, V1.k 3 rfl])) (fun q hq => by rw [V2.k 1 rfl]; exact E1 q hq) (fun h3 M3 V3 H3 => ?_)
      simp only [e148_0, e148_1, e148_2, e148_3, e148_4, e148_7, e148_10, e148_12, e148_13, e148_14, e148_17, e148_18, e148_19, e148_22, e148_24, e148_25, e148_26, e148_29, e148_30, e148_32, e148_35, e148_38, e148_39, e148_42, e148_43, e148_44, e148_47, e148_50, e148_51, e148_52, e148_53, e148_54, e148_55, e148_56, e148_59, e148_63, e148_64, e148_67, e148_68, e148_69, e148_72, zpush, zopt_some, ↓reduceIte, List.getElem?_cons_succ, List.getElem?_cons_zero, beq_self_eq_true, true_and, and_true, Bool.true_and, Bool.and_true, Bool.false_and, Bool.and_false, nI_1, not_true_eq_false, not_false_eq_true, vp_narI]
      exact hQ h3 M3 (W2.to V3 rfl) (fun q hq => by rw [V3.k 0 rfl]; exact e0 q hq) H3
  · rw [Bool.not_eq_true] at hz
    simp only [e148_0, e148_1, e148_2, e148_3, e148_4, e148_7, e148_10, e148_12, e148_14, e148_17, e148_18, e148_19, e148_22, e148_24, e148_25, e148_26, e148_29, e148_30, e148_31, e148_32, e148_35, e148_38, e148_39, e148_42, e148_43, e148_44, e148_47, e148_50, e148_51, e148_52, e148_53, e148_54, e148_55, e148_56, e148_59, e148_62, e148_63, e148_64, e148_67, e148_68, e148_69, e148_72, zpush, zopt_some, ↓reduceIte, List.getElem?_cons_succ, List.getElem?_cons_zero, beq_self_eq_true, true_and, and_true, Bool.true_and, Bool.and_true, Bool.false_and, Bool.and_false, nI_1, not_true_eq_false, not_false_eq_true, vp_narI, c_M_in, e', hz, zb_f, not_true_eq_false]
    exact h0 hz
end ZC
end
