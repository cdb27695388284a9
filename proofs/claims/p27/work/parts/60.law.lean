/-! the law's small methods -/
section
set_option maxRecDepth 100000
theorem or0 (x : Int32) : x ||| 0 = x := by
  apply Int32.toBitVec_inj.mp
  rw [Int32.toBitVec_or]
  exact BitVec.or_zero
theorem and_31 (x : Int32) : ∃ m : Nat, m < 2 ^ 31 ∧ x &&& 2147483647 = nI m := by
  refine nI_of ?_
  rw [Int32.lt_iff_toInt_lt]
  have e : (x &&& 2147483647).toBitVec.msb = false := by
    rw [Int32.toBitVec_and, BitVec.msb_and]
    have : (2147483647 : Int32).toBitVec.msb = false := by decide +kernel
    rw [this, Bool.and_false]
  have h := BitVec.toInt_eq_toNat_of_msb e
  show ¬ (x &&& 2147483647).toBitVec.toInt < (0 : Int32).toInt
  rw [h]
  show ¬ (((x &&& 2147483647).toBitVec.toNat : Nat) : Int) < 0
  omega
theorem c_up {v N : Int32} {n : Nat} (hN : N = nI n) (h0 : 0 < n) (hn : n < 2 ^ 31) : ∃ m, m < n ∧ ∀ (X : zX) (Q : Option Value → zX → Prop), Ev 64 0 [.int v, .int N] [] X Q = Q (some (.int (nI m))) X := by
  obtain ⟨m, hm, e⟩ := and_31 v
  refine ⟨m % n, Nat.mod_lt _ h0, fun X Q => ?_⟩
  subst hN
  have e0 : ¬ nI n = 0 := nI_ne0 h0 hn
  simp only [e64_0, e64_1, e64_3, e64_4, e64_5, e64_6, zpush, zopt_some, ↓reduceIte, List.getElem?_cons_succ, List.getElem?_cons_zero, beq_self_eq_true, true_and, and_true, Bool.true_and, Bool.and_true, Bool.false_and, Bool.and_false, nI_1, not_true_eq_false, not_false_eq_true, vp_narI, e, e0, pk_rem hm h0 hn]
section ZC
variable {h : List zC} {z : Nat × (Nat × (Nat → Int32))} {a : Nat → Int32} {Q : Option Value → zX → Prop} {n l : Nat} {H S : Nat → Nat → Int32} {sv f : Nat → Int32}
theorem c_cell {k : Nat} (hz : z.2.1 < 2 ^ 31) (hk : k < 2 ^ 31) : ∃ x : Int32, ∀ (h : List zC) (Q : Option Value → zX → Prop), Ev 63 0 [zS, .int (nI k)] [] (h, z) Q = Q (some (.int x)) (h, z) := by
  have eo : Int32.ofNat z.2.1 = nI z.2.1 := rfl
  by_cases hb : k < z.2.1
  · have e1 : ¬ nI z.2.1 ≤ nI k := nI_ge hb hz
    have e2 : zinb (nI k) z.2.1 = true := zinb_nI hb hz
    exact ⟨z.2.2 (nI k).toNatClampNeg, fun h Q => by simp only [e63_0, e63_1, e63_2, e63_3, e63_6, e63_7, e63_8, e63_9, e63_12, e63_14, e63_15, e63_18, e63_19, e63_20, zpush, zopt_some, ↓reduceIte, List.getElem?_cons_succ, List.getElem?_cons_zero, beq_self_eq_true, true_and, and_true, Bool.true_and, Bool.and_true, Bool.false_and, Bool.and_false, nI_1, not_true_eq_false, not_false_eq_true, vp_narI, eo, e1, e2]⟩
  · have e1 : nI z.2.1 ≤ nI k := nI_le (by omega) hk
    exact ⟨786023723 * (nI k + 733), fun h Q => by simp only [e63_0, e63_1, e63_2, e63_3, e63_6, e63_7, e63_8, e63_9, e63_12, e63_14, e63_15, e63_18, e63_19, e63_20, zpush, zopt_some, ↓reduceIte, List.getElem?_cons_succ, List.getElem?_cons_zero, beq_self_eq_true, true_and, and_true, Bool.true_and, Bool.and_true, Bool.false_and, Bool.and_false, nI_1, not_true_eq_false, not_false_eq_true, vp_narI, eo, e1]⟩
theorem l_areTo {s w : Nat} (hg : zG a) (hK : zCl h a n H sv S l f) (hs : s < 12) (hw : w < 3) (hM : Mv a s w) : ∀ (j i : Nat) (v5 : Value), i + j = gN a 4 → Ev 65 5 [.ref 0, .int (nI s), .int (nI w), .int 1, .int (nI i), v5] [] (h, z) Q = Q (some (.int 1)) (h, z) := by
  have o0 := hK.o
  obtain ⟨⟨P, T, K⟩, -⟩ := id hK
  have cC := fun (w : Int32) (Q : Option Value → zX → Prop) => c_D_count (w := w) (Q := Q) (z := z) hg hK
  have cM := fun (m w : Int32) (Q : Option Value → zX → Prop) => c_D_move (m := m) (w := w) (Q := Q) (z := z) hg K
  obtain ⟨g4, b4⟩ := hg.2.2.2.2.1
  intro j
  induction j with
  | zero =>
    intro i v5 hi
    have hi : i = gN a 4 := by omega
    subst hi
    have e1 : a 4 ≤ nI (gN a 4) := by rw [← g4]; exact Int32.le_refl _
    rw [e65_5]
    simp only [e65_0, e65_1, e65_2, e65_3, e65_7, e65_8, e65_9, e65_12, e65_15, e65_16, e65_18, e65_19, e65_22, e65_24, e65_25, e65_28, e65_30, e65_31, e65_34, e65_36, e65_38, e65_41, e65_43, e65_46, e65_47, e65_49, e65_50, e65_53, e65_54, e65_56, e65_57, e65_58, e65_59, e65_62, e65_65, e65_66, e65_69, e65_70, e65_71, e65_74, e65_77, e65_78, zpush, zopt_some, ↓reduceIte, List.getElem?_cons_succ, List.getElem?_cons_zero, beq_self_eq_true, true_and, and_true, Bool.true_and, Bool.and_true, Bool.false_and, Bool.and_false, nI_1, not_true_eq_false, not_false_eq_true, vp_narI, o0, cC, qC_4, e1, z1_and]
  | succ j ih =>
    intro i v5 hi
    have hlt : i < gN a 4 := by omega
    have e1 : ¬ a 4 ≤ nI i := by rw [g4]; exact nI_ge hlt (by omega)
    have q1 := qM_i hg hlt hw
    have q2 : qMv a (nI i) 0 = a (121 + 3 * i) := qM_i hg (w := 0) hlt (by omega)
    have x1 : ¬ (1 : Int32) = 0 := by decide
    have ih' := fun v => ih (i + 1) v (by omega)
    have key : ∀ v : Int32, Ev 65 41 [.ref 0, .int (nI s), .int (nI w), .int 1, .int (nI i), .int v] [] (h, z) Q = Ev 65 65 [.ref 0, .int (nI s), .int (nI w), .int 1, .int (nI i), .int v] [] (h, z) Q → Ev 65 41 [.ref 0, .int (nI s), .int (nI w), .int 1, .int (nI i), .int v] [] (h, z) Q = Q (some (.int 1)) (h, z) := by
      intro v hv
      rw [hv]
      simp only [e65_0, e65_1, e65_2, e65_3, e65_7, e65_8, e65_9, e65_12, e65_15, e65_16, e65_18, e65_19, e65_22, e65_24, e65_25, e65_28, e65_30, e65_31, e65_34, e65_36, e65_38, e65_43, e65_46, e65_47, e65_49, e65_50, e65_53, e65_54, e65_56, e65_57, e65_58, e65_59, e65_62, e65_65, e65_66, e65_69, e65_70, e65_71, e65_74, e65_77, e65_78, zpush, zopt_some, ↓reduceIte, List.getElem?_cons_succ, List.getElem?_cons_zero, beq_self_eq_true, true_and, and_true, Bool.true_and, Bool.and_true, Bool.false_and, Bool.and_false, nI_1, not_true_eq_false, not_false_eq_true, vp_narI]
      exact ih' _
    have at41 : ∀ x : Int32, Ev 65 41 [.ref 0, .int (nI s), .int (nI w), .int 1, .int (nI i), .int x] [] (h, z) Q = Q (some (.int 1)) (h, z) := by
      intro x
      refine key _ ?_
      by_cases h0 : i = 0
      · subst h0
        have y0 : nI 0 = 0 := rfl
        simp only [e65_41, e65_43, e65_46, e65_47, e65_49, e65_50, e65_53, e65_54, e65_56, e65_57, e65_58, e65_59, e65_62, zpush, zopt_some, ↓reduceIte, List.getElem?_cons_succ, List.getElem?_cons_zero, beq_self_eq_true, true_and, and_true, Bool.true_and, Bool.and_true, Bool.false_and, Bool.and_false, nI_1, not_true_eq_false, not_false_eq_true, vp_narI, y0]
      · have y0 : ¬ nI i = 0 := nI_ne0 (by omega) (by omega)
        have ym : nI i - 1 = nI (i - 1) := by
          obtain ⟨i', rfl⟩ : ∃ i', i = i' + 1 := ⟨i - 1, by omega⟩
          rw [nI_sub1, Nat.add_sub_cancel]
        have q3 : qMv a (nI (i - 1)) 0 = a (121 + 3 * (i - 1)) := qM_i hg (w := 0) (by omega) (by omega)
        have y1 : ¬ a (121 + 3 * i) < a (121 + 3 * (i - 1)) := Int32.not_lt.mpr (hM.2 (i - 1) i (by omega) hlt)
        simp only [e65_41, e65_43, e65_46, e65_47, e65_49, e65_50, e65_53, e65_54, e65_56, e65_57, e65_58, e65_59, e65_62, zpush, zopt_some, ↓reduceIte, List.getElem?_cons_succ, List.getElem?_cons_zero, beq_self_eq_true, true_and, and_true, Bool.true_and, Bool.and_true, Bool.false_and, Bool.and_false, nI_1, not_true_eq_false, not_false_eq_true, vp_narI, y0, o0, cM, q2, ym, q3, y1]
    rw [e65_5]
    rcases hM.1 i hlt with hx | hx
    · simp only [e65_7, e65_8, e65_9, e65_12, e65_15, e65_16, e65_18, e65_19, e65_22, e65_24, e65_25, e65_28, e65_30, e65_31, e65_34, e65_36, e65_38, zpush, zopt_some, ↓reduceIte, List.getElem?_cons_succ, List.getElem?_cons_zero, beq_self_eq_true, true_and, and_true, Bool.true_and, Bool.and_true, Bool.false_and, Bool.and_false, nI_1, not_true_eq_false, not_false_eq_true, vp_narI, o0, cC, qC_4, e1, cM, q1, x1, hx]
      exact at41 _
    · have x2 : ¬ (-6 : Int32) = nI s := fun q => nI_ne6 (by omega) q.symm
      simp only [e65_7, e65_8, e65_9, e65_12, e65_15, e65_16, e65_18, e65_19, e65_22, e65_24, e65_25, e65_28, e65_30, e65_31, e65_34, e65_36, e65_38, zpush, zopt_some, ↓reduceIte, List.getElem?_cons_succ, List.getElem?_cons_zero, beq_self_eq_true, true_and, and_true, Bool.true_and, Bool.and_true, Bool.false_and, Bool.and_false, nI_1, not_true_eq_false, not_false_eq_true, vp_narI, o0, cC, qC_4, e1, cM, q1, x1, hx, x2]
      exact at41 _
theorem c_areTo {s w : Nat} {W : Int32} (hW : W = nI w) (hg : zG a) (hK : zCl h a n H sv S l f) (hs : s < 12) (hw : w < 3) (hM : Mv a s w) : Ev 65 0 [.ref 0, .int (nI s), .int W, zU, zU, zU] [] (h, z) Q = Q (some (.int 1)) (h, z) := by
  subst hW
  refine Eq.trans ?_ (l_areTo (Q := Q) (z := z) hg hK hs hw hM (gN a 4) 0 zU (by omega))
  simp only [e65_0, e65_1, e65_2, e65_3]
  rfl
end ZC
end
