/-! the model's texts: faults, carrying out -/
section
set_option maxRecDepth 100000
theorem rdO_end {f : Nat → Int32} {l p : Nat} (h : l ≤ p) : (rdO f l p).1 = false := by
  unfold rdO
  rw [if_neg (fun h2 => by omega)]
theorem isO_6 {c : Int32} (h : isO c = true) : c = 43 ∨ c = 45 ∨ c = 100 ∨ c = 117 ∨ c = 119 ∨ c = 112 := by
  unfold isO at h
  simp only [Bool.or_eq_true, decide_eq_true_eq] at h
  rcases h with ((((h | h) | h) | h) | h) | h
  · exact Or.inl h
  · exact Or.inr (Or.inl h)
  · exact Or.inr (Or.inr (Or.inl h))
  · exact Or.inr (Or.inr (Or.inr (Or.inl h)))
  · exact Or.inr (Or.inr (Or.inr (Or.inr (Or.inl h))))
  · exact Or.inr (Or.inr (Or.inr (Or.inr (Or.inr h))))
section ZC
variable {h : List zC} {z : Nat × (Nat × (Nat → Int32))} {M : Nat → Nat → Int32} {Q : Option Value → zX → Prop} {l p : Nat} {f : Nat → Int32}
theorem l_M_fault (hl : l ≤ 60) (h0 : List zC) (M0 : Nat → Nat → Int32) (ef : M0 14 = f) (v : Int32) (hQ : ∀ h' M', zMv [16, 17, 18, 19, 20] h0 M0 h' M' → Q (some (.int v)) (h', z)) :
    ∀ (k p : Nat) (h : List zC) (M : Nat → Nat → Int32), 60 ≤ p + k → p ≤ l → flt f l k p = v → zMv [16, 17, 18, 19, 20] h0 M0 h M → zRd M l p → Ev 143 7 [.ref 108, .int 1] [] (h, z) Q := by
  have n1 : ¬ (1 : Int32) = 0 := by decide
  intro k
  induction k with
  | zero =>
    intro p h M hpk hp hv V hR
    obtain ⟨o0, fd0, fd1, fd2, fd3, fd4, fd5, fd6, fd7, fd8, fd9, fd10, fd11, fd12, fd13, fd14, fd15, fd16, fd17, fd18, fd19, fd20, a0, a1, a2, a4, a5, a6, a7, a9, a10, a11, a14⟩ := V.mm.q
    have hpl : p = l := by omega
    rw [flt] at hv
    rw [e143_7]
    simp only [e143_0, e143_1, e143_2, e143_5, e143_6, e143_8, e143_11, e143_12, e143_18, e143_19, e143_22, e143_23, e143_24, e143_26, e143_29, e143_30, e143_33, e143_34, e143_37, e143_38, e143_41, e143_44, e143_46, e143_49, e143_50, e143_53, zpush, zopt_some, ↓reduceIte, List.getElem?_cons_succ, List.getElem?_cons_zero, beq_self_eq_true, true_and, and_true, Bool.true_and, Bool.and_true, Bool.false_and, Bool.and_false, nI_1, not_true_eq_false, not_false_eq_true, vp_narI, o0, ↓fd0, ↓fd1, ↓fd2, ↓fd3, ↓fd4, ↓fd5, ↓fd6, ↓fd7, ↓fd8, ↓fd9, ↓fd10, ↓fd11, ↓fd12, ↓fd13, ↓fd14, ↓fd15, ↓fd16, ↓fd17, ↓fd18, ↓fd19, ↓fd20, n1]
    refine c_M_readsOrder V.mm hR hl ((V.k 14 rfl).trans ef) hp (fun h2 M2 V2 R2 _ => ?_)
    have e1 : (rdO f l p).1 = false := rdO_end (by omega)
    have e2 : (rdO f l p).2.1 = p := by unfold rdO; rw [if_neg (fun h2 => by omega)]
    rw [e2] at R2
    obtain ⟨o0, fd0, fd1, fd2, fd3, fd4, fd5, fd6, fd7, fd8, fd9, fd10, fd11, fd12, fd13, fd14, fd15, fd16, fd17, fd18, fd19, fd20, a0, a1, a2, a4, a5, a6, a7, a9, a10, a11, a14⟩ := V2.mm.q
    simp only [e143_0, e143_1, e143_2, e143_5, e143_6, e143_8, e143_11, e143_12, e143_15, e143_18, e143_19, e143_22, e143_24, e143_26, e143_29, e143_30, e143_33, e143_34, e143_37, e143_38, e143_41, e143_44, e143_46, e143_49, e143_50, e143_53, zpush, zopt_some, ↓reduceIte, List.getElem?_cons_succ, List.getElem?_cons_zero, beq_self_eq_true, true_and, and_true, Bool.true_and, Bool.and_true, Bool.false_and, Bool.and_false, nI_1, not_true_eq_false, not_false_eq_true, vp_narI, o0, ↓fd0, ↓fd1, ↓fd2, ↓fd3, ↓fd4, ↓fd5, ↓fd6, ↓fd7, ↓fd8, ↓fd9, ↓fd10, ↓fd11, ↓fd12, ↓fd13, ↓fd14, ↓fd15, ↓fd16, ↓fd17, ↓fd18, ↓fd19, ↓fd20, e1, zb_f, R2.2, not_true_eq_false]
    rw [hv]
    exact hQ h2 M2 (V.to V2 rfl)
  | succ k ih =>
    intro p h M hpk hp hv V hR
    obtain ⟨o0, fd0, fd1, fd2, fd3, fd4, fd5, fd6, fd7, fd8, fd9, fd10, fd11, fd12, fd13, fd14, fd15, fd16, fd17, fd18, fd19, fd20, a0, a1, a2, a4, a5, a6, a7, a9, a10, a11, a14⟩ := V.mm.q
    have ef' := (V.k 14 rfl).trans ef
    have rl := rdO_le (f := f) hp
    rw [flt] at hv
    rw [e143_7]
    simp only [e143_0, e143_1, e143_2, e143_5, e143_6, e143_8, e143_11, e143_12, e143_18, e143_19, e143_22, e143_23, e143_24, e143_26, e143_29, e143_30, e143_33, e143_34, e143_37, e143_38, e143_41, e143_44, e143_46, e143_49, e143_50, e143_53, zpush, zopt_some, ↓reduceIte, List.getElem?_cons_succ, List.getElem?_cons_zero, beq_self_eq_true, true_and, and_true, Bool.true_and, Bool.and_true, Bool.false_and, Bool.and_false, nI_1, not_true_eq_false, not_false_eq_true, vp_narI, o0, ↓fd0, ↓fd1, ↓fd2, ↓fd3, ↓fd4, ↓fd5, ↓fd6, ↓fd7, ↓fd8, ↓fd9, ↓fd10, ↓fd11, ↓fd12, ↓fd13, ↓fd14, ↓fd15, ↓fd16, ↓fd17, ↓fd18, ↓fd19, ↓fd20, n1]
    refine c_M_readsOrder V.mm hR hl ef' hp (fun h2 M2 V2 R2 _ => ?_)
    have W2 := V.to V2 rfl
    obtain ⟨o0, fd0, fd1, fd2, fd3, fd4, fd5, fd6, fd7, fd8, fd9, fd10, fd11, fd12, fd13, fd14, fd15, fd16, fd17, fd18, fd19, fd20, a0, a1, a2, a4, a5, a6, a7, a9, a10, a11, a14⟩ := V2.mm.q
    cases e1 : (rdO f l p).1 with
    | false =>
      rw [e1, if_neg (by decide)] at hv
      simp only [e143_0, e143_1, e143_2, e143_5, e143_6, e143_8, e143_11, e143_12, e143_15, e143_18, e143_19, e143_22, e143_24, e143_26, e143_29, e143_30, e143_33, e143_34, e143_37, e143_38, e143_41, e143_44, e143_46, e143_49, e143_50, e143_53, zpush, zopt_some, ↓reduceIte, List.getElem?_cons_succ, List.getElem?_cons_zero, beq_self_eq_true, true_and, and_true, Bool.true_and, Bool.and_true, Bool.false_and, Bool.and_false, nI_1, not_true_eq_false, not_false_eq_true, vp_narI, o0, ↓fd0, ↓fd1, ↓fd2, ↓fd3, ↓fd4, ↓fd5, ↓fd6, ↓fd7, ↓fd8, ↓fd9, ↓fd10, ↓fd11, ↓fd12, ↓fd13, ↓fd14, ↓fd15, ↓fd16, ↓fd17, ↓fd18, ↓fd19, ↓fd20, zb_f, R2.2, not_true_eq_false]
      rw [hv]
      exact hQ h2 M2 W2
    | true =>
      rw [e1, if_pos rfl] at hv
      have rl2 := rl.2.2 e1
      simp only [e143_0, e143_1, e143_2, e143_5, e143_6, e143_8, e143_11, e143_12, e143_15, e143_18, e143_19, e143_22, e143_23, e143_24, e143_26, e143_30, e143_33, e143_34, e143_37, e143_38, e143_41, e143_44, e143_46, e143_49, e143_50, e143_53, zpush, zopt_some, ↓reduceIte, List.getElem?_cons_succ, List.getElem?_cons_zero, beq_self_eq_true, true_and, and_true, Bool.true_and, Bool.and_true, Bool.false_and, Bool.and_false, nI_1, not_true_eq_false, not_false_eq_true, vp_narI, o0, ↓fd0, ↓fd1, ↓fd2, ↓fd3, ↓fd4, ↓fd5, ↓fd6, ↓fd7, ↓fd8, ↓fd9, ↓fd10, ↓fd11, ↓fd12, ↓fd13, ↓fd14, ↓fd15, ↓fd16, ↓fd17, ↓fd18, ↓fd19, ↓fd20, zb_t, n1, not_false_eq_true]
      refine c_M_takes (f := f) V2.mm R2 hl (by rw [V2.k 14 rfl]; exact ef') rl.2.1 (fun h3 M3 V3 R3 => ?_)
      have W3 := W2.to V3 rfl
      obtain ⟨o0, fd0, fd1, fd2, fd3, fd4, fd5, fd6, fd7, fd8, fd9, fd10, fd11, fd12, fd13, fd14, fd15, fd16, fd17, fd18, fd19, fd20, a0, a1, a2, a4, a5, a6, a7, a9, a10, a11, a14⟩ := V3.mm.q
      unfold skA at R3
      by_cases h4 : l ≤ (rdO f l p).2.1
      · rw [if_pos h4] at hv
        have hpl : (rdO f l p).2.1 = l := by omega
        have hs : skB f l (rdO f l p).2.1 59 = false := by unfold skB; rw [show decide ((rdO f l p).2.1 < l) = false from decide_eq_false (by omega), Bool.false_and]
        rw [hs, if_neg (by decide), hpl] at R3
        simp only [e143_0, e143_1, e143_2, e143_5, e143_6, e143_8, e143_11, e143_12, e143_15, e143_18, e143_19, e143_22, e143_23, e143_24, e143_26, e143_29, e143_30, e143_33, e143_34, e143_37, e143_38, e143_41, e143_44, e143_46, e143_49, e143_50, e143_53, zpush, zopt_some, ↓reduceIte, List.getElem?_cons_succ, List.getElem?_cons_zero, beq_self_eq_true, true_and, and_true, Bool.true_and, Bool.and_true, Bool.false_and, Bool.and_false, nI_1, not_true_eq_false, not_false_eq_true, vp_narI, o0, ↓fd0, ↓fd1, ↓fd2, ↓fd3, ↓fd4, ↓fd5, ↓fd6, ↓fd7, ↓fd8, ↓fd9, ↓fd10, ↓fd11, ↓fd12, ↓fd13, ↓fd14, ↓fd15, ↓fd16, ↓fd17, ↓fd18, ↓fd19, ↓fd20, hs, zb_f]
        rw [e143_7]
        simp only [e143_0, e143_1, e143_2, e143_5, e143_6, e143_8, e143_11, e143_12, e143_15, e143_18, e143_19, e143_22, e143_23, e143_24, e143_26, e143_29, e143_30, e143_33, e143_34, e143_37, e143_38, e143_41, e143_44, e143_46, e143_49, e143_50, e143_53, zpush, zopt_some, ↓reduceIte, List.getElem?_cons_succ, List.getElem?_cons_zero, beq_self_eq_true, true_and, and_true, Bool.true_and, Bool.and_true, Bool.false_and, Bool.and_false, nI_1, not_true_eq_false, not_false_eq_true, vp_narI, o0, ↓fd0, ↓fd1, ↓fd2, ↓fd3, ↓fd4, ↓fd5, ↓fd6, ↓fd7, ↓fd8, ↓fd9, ↓fd10, ↓fd11, ↓fd12, ↓fd13, ↓fd14, ↓fd15, ↓fd16, ↓fd17, ↓fd18, ↓fd19, ↓fd20, R3.1, R3.2, not_true_eq_false]
        rw [hv]
        exact hQ h3 M3 W3
      · rw [if_neg h4] at hv
        by_cases h5 : f (rdO f l p).2.1 = 59
        · rw [if_pos h5] at hv
          have hs : skB f l (rdO f l p).2.1 59 = true := by unfold skB; rw [show decide ((rdO f l p).2.1 < l) = true from decide_eq_true (by omega), h5]; rfl
          rw [hs, if_pos rfl] at R3
          simp only [e143_0, e143_1, e143_2, e143_5, e143_6, e143_8, e143_11, e143_12, e143_15, e143_18, e143_19, e143_22, e143_23, e143_24, e143_26, e143_29, e143_30, e143_33, e143_34, e143_37, e143_38, e143_41, e143_44, e143_46, e143_49, e143_50, e143_53, zpush, zopt_some, ↓reduceIte, List.getElem?_cons_succ, List.getElem?_cons_zero, beq_self_eq_true, true_and, and_true, Bool.true_and, Bool.and_true, Bool.false_and, Bool.and_false, nI_1, not_true_eq_false, not_false_eq_true, vp_narI, o0, ↓fd0, ↓fd1, ↓fd2, ↓fd3, ↓fd4, ↓fd5, ↓fd6, ↓fd7, ↓fd8, ↓fd9, ↓fd10, ↓fd11, ↓fd12, ↓fd13, ↓fd14, ↓fd15, ↓fd16, ↓fd17, ↓fd18, ↓fd19, ↓fd20, hs, zb_t]
          exact ih _ h3 M3 (by omega) (by omega) hv W3 R3
        · rw [if_neg h5] at hv
          have hs : skB f l (rdO f l p).2.1 59 = false := by unfold skB; rw [show decide (f (rdO f l p).2.1 = 59) = false from decide_eq_false h5, Bool.and_false]
          rw [hs, if_neg (by decide)] at R3
          have e6 : ¬ nI (rdO f l p).2.1 = nI l := fun e => by have := (nI_eq (by omega) (by omega)).mp e; omega
          simp only [e143_0, e143_1, e143_2, e143_5, e143_6, e143_8, e143_11, e143_12, e143_15, e143_18, e143_19, e143_22, e143_23, e143_24, e143_26, e143_29, e143_30, e143_33, e143_34, e143_37, e143_38, e143_41, e143_44, e143_46, e143_49, e143_50, e143_53, zpush, zopt_some, ↓reduceIte, List.getElem?_cons_succ, List.getElem?_cons_zero, beq_self_eq_true, true_and, and_true, Bool.true_and, Bool.and_true, Bool.false_and, Bool.and_false, nI_1, not_true_eq_false, not_false_eq_true, vp_narI, o0, ↓fd0, ↓fd1, ↓fd2, ↓fd3, ↓fd4, ↓fd5, ↓fd6, ↓fd7, ↓fd8, ↓fd9, ↓fd10, ↓fd11, ↓fd12, ↓fd13, ↓fd14, ↓fd15, ↓fd16, ↓fd17, ↓fd18, ↓fd19, ↓fd20, hs, zb_f]
          rw [e143_7]
          simp only [e143_0, e143_1, e143_2, e143_5, e143_6, e143_8, e143_11, e143_12, e143_15, e143_18, e143_19, e143_22, e143_23, e143_24, e143_26, e143_29, e143_30, e143_33, e143_34, e143_37, e143_38, e143_41, e143_44, e143_46, e143_49, e143_50, e143_53, zpush, zopt_some, ↓reduceIte, List.getElem?_cons_succ, List.getElem?_cons_zero, beq_self_eq_true, true_and, and_true, Bool.true_and, Bool.and_true, Bool.false_and, Bool.and_false, nI_1, not_true_eq_false, not_false_eq_true, vp_narI, o0, ↓fd0, ↓fd1, ↓fd2, ↓fd3, ↓fd4, ↓fd5, ↓fd6, ↓fd7, ↓fd8, ↓fd9, ↓fd10, ↓fd11, ↓fd12, ↓fd13, ↓fd14, ↓fd15, ↓fd16, ↓fd17, ↓fd18, ↓fd19, ↓fd20, R3.1, R3.2, e6, not_false_eq_true]
          rw [hv]
          exact hQ h3 M3 W3
theorem c_M_fault (hM : zMM h M) (hl : l ≤ 60) (h15 : M 15 0 = nI l) (ef : M 14 = f) (hQ : ∀ h' M', zMv [16, 17, 18, 19, 20] h M h' M' → Q (some (.int (flt f l 60 0))) (h', z)) : Ev 143 0 [.ref 108, zU] [] (h, z) Q := by
  obtain ⟨o0, fd0, fd1, fd2, fd3, fd4, fd5, fd6, fd7, fd8, fd9, fd10, fd11, fd12, fd13, fd14, fd15, fd16, fd17, fd18, fd19, fd20, a0, a1, a2, a4, a5, a6, a7, a9, a10, a11, a14⟩ := hM.q
  simp only [e143_0, e143_1, e143_2, e143_5, e143_6, e143_8, e143_11, e143_12, e143_15, e143_18, e143_19, e143_22, e143_23, e143_24, e143_26, e143_29, e143_30, e143_33, e143_34, e143_37, e143_38, e143_41, e143_44, e143_46, e143_49, e143_50, e143_53, zpush, zopt_some, ↓reduceIte, List.getElem?_cons_succ, List.getElem?_cons_zero, beq_self_eq_true, true_and, and_true, Bool.true_and, Bool.and_true, Bool.false_and, Bool.and_false, nI_1, not_true_eq_false, not_false_eq_true, vp_narI, o0, ↓fd0, ↓fd1, ↓fd2, ↓fd3, ↓fd4, ↓fd5, ↓fd6, ↓fd7, ↓fd8, ↓fd9, ↓fd10, ↓fd11, ↓fd12, ↓fd13, ↓fd14, ↓fd15, ↓fd16, ↓fd17, ↓fd18, ↓fd19, ↓fd20]
  refine hM.p16 (fun h2 M2 V2 E2 => ?_)
  exact l_M_fault hl h M ef (flt f l 60 0) hQ 60 0 h2 M2 (by omega) (by omega) rfl (V2.mono rfl) ⟨(congrFun (V2.k 15 rfl) 0).trans h15, E2⟩
theorem c_M_doOrder {c fi se : Int32} {g : Nat → Int32} (hM : zMM h M) (hg : zG g) (eg : M 0 = g) (ho : isO c = true) (h17 : M 17 0 = c) (h18 : M 18 0 = fi) (h19 : c = 119 ∨ c = 112 → M 19 0 = se) (hQ : ∀ h' M', zMv [0, 6, 7, 8, 9] h M h' M' → M' 0 = (ordA g c fi se).2 → Q (some (.int (ordA g c fi se).1)) (h', z)) :
    Ev 144 0 [.ref 108] [] (h, z) Q := by
  obtain ⟨o0, fd0, fd1, fd2, fd3, fd4, fd5, fd6, fd7, fd8, fd9, fd10, fd11, fd12, fd13, fd14, fd15, fd16, fd17, fd18, fd19, fd20, a0, a1, a2, a4, a5, a6, a7, a9, a10, a11, a14⟩ := hM.q
  unfold ordA at hQ
  rcases isO_6 ho with hc | hc | hc | hc | hc | hc
  · subst hc
    simp only [↓reduceIte] at hQ
    simp only [e144_0, e144_1, e144_4_c43, e144_4_c45, e144_4_c100, e144_4_c117, e144_4_c119, e144_56, e144_57, e144_58, e144_61, e144_64, e144_65, e144_66, e144_67, e144_70, e144_73, e144_74, e144_75, e144_76, e144_79, e144_80, e144_83, e144_86, e144_87, e144_88, e144_89, e144_92, e144_93, e144_96, e144_97, e144_98, e144_99, e144_102, e144_103, e144_106, e144_107, e144_108, e144_109, e144_112, e144_113, e144_116, e144_119, zpush, zopt_some, ↓reduceIte, List.getElem?_cons_succ, List.getElem?_cons_zero, beq_self_eq_true, true_and, and_true, Bool.true_and, Bool.and_true, Bool.false_and, Bool.and_false, nI_1, not_true_eq_false, not_false_eq_true, vp_narI, o0, ↓fd0, ↓fd1, ↓fd2, ↓fd3, ↓fd4, ↓fd5, ↓fd6, ↓fd7, ↓fd8, ↓fd9, ↓fd10, ↓fd11, ↓fd12, ↓fd13, ↓fd14, ↓fd15, ↓fd16, ↓fd17, ↓fd18, ↓fd19, ↓fd20, h17, h18]
    refine c_M_doStore hM hg eg (fun h2 M2 V2 E2 => ?_)
    simp only [e144_0, e144_1, e144_4_c43, e144_4_c45, e144_4_c100, e144_4_c117, e144_4_c119, e144_56, e144_57, e144_58, e144_61, e144_64, e144_65, e144_66, e144_67, e144_70, e144_73, e144_74, e144_75, e144_76, e144_79, e144_80, e144_83, e144_86, e144_87, e144_88, e144_89, e144_92, e144_93, e144_96, e144_97, e144_98, e144_99, e144_102, e144_103, e144_106, e144_107, e144_108, e144_109, e144_112, e144_113, e144_116, e144_119, zpush, zopt_some, ↓reduceIte, List.getElem?_cons_succ, List.getElem?_cons_zero, beq_self_eq_true, true_and, and_true, Bool.true_and, Bool.and_true, Bool.false_and, Bool.and_false, nI_1, not_true_eq_false, not_false_eq_true, vp_narI]
    exact hQ h2 M2 V2 E2
  · subst hc
    simp only [↓reduceIte, (show ¬ (45 : Int32) = 43 by decide)] at hQ
    simp only [e144_0, e144_1, e144_4_c43, e144_4_c45, e144_4_c100, e144_4_c117, e144_4_c119, e144_56, e144_57, e144_58, e144_61, e144_64, e144_65, e144_66, e144_67, e144_70, e144_73, e144_74, e144_75, e144_76, e144_79, e144_80, e144_83, e144_86, e144_87, e144_88, e144_89, e144_92, e144_93, e144_96, e144_97, e144_98, e144_99, e144_102, e144_103, e144_106, e144_107, e144_108, e144_109, e144_112, e144_113, e144_116, e144_119, zpush, zopt_some, ↓reduceIte, List.getElem?_cons_succ, List.getElem?_cons_zero, beq_self_eq_true, true_and, and_true, Bool.true_and, Bool.and_true, Bool.false_and, Bool.and_false, nI_1, not_true_eq_false, not_false_eq_true, vp_narI, o0, ↓fd0, ↓fd1, ↓fd2, ↓fd3, ↓fd4, ↓fd5, ↓fd6, ↓fd7, ↓fd8, ↓fd9, ↓fd10, ↓fd11, ↓fd12, ↓fd13, ↓fd14, ↓fd15, ↓fd16, ↓fd17, ↓fd18, ↓fd19, ↓fd20, h17, h18]
    refine c_M_doDrop hM hg eg (fun h2 M2 V2 E2 => ?_)
    simp only [e144_0, e144_1, e144_4_c43, e144_4_c45, e144_4_c100, e144_4_c117, e144_4_c119, e144_56, e144_57, e144_58, e144_61, e144_64, e144_65, e144_66, e144_67, e144_70, e144_73, e144_74, e144_75, e144_76, e144_79, e144_80, e144_83, e144_86, e144_87, e144_88, e144_89, e144_92, e144_93, e144_96, e144_97, e144_98, e144_99, e144_102, e144_103, e144_106, e144_107, e144_108, e144_109, e144_112, e144_113, e144_116, e144_119, zpush, zopt_some, ↓reduceIte, List.getElem?_cons_succ, List.getElem?_cons_zero, beq_self_eq_true, true_and, and_true, Bool.true_and, Bool.and_true, Bool.false_and, Bool.and_false, nI_1, not_true_eq_false, not_false_eq_true, vp_narI]
    exact hQ h2 M2 V2 E2
  · subst hc
    simp only [↓reduceIte, (show ¬ (100 : Int32) = 43 by decide), (show ¬ (100 : Int32) = 45 by decide), (show ¬ (100 : Int32) = 119 by decide)] at hQ
    simp only [e144_0, e144_1, e144_4_c43, e144_4_c45, e144_4_c100, e144_4_c117, e144_4_c119, e144_56, e144_57, e144_58, e144_61, e144_64, e144_65, e144_66, e144_67, e144_70, e144_73, e144_74, e144_75, e144_76, e144_79, e144_80, e144_83, e144_86, e144_87, e144_88, e144_89, e144_92, e144_93, e144_96, e144_97, e144_98, e144_99, e144_102, e144_103, e144_106, e144_107, e144_108, e144_109, e144_112, e144_113, e144_116, e144_119, zpush, zopt_some, ↓reduceIte, List.getElem?_cons_succ, List.getElem?_cons_zero, beq_self_eq_true, true_and, and_true, Bool.true_and, Bool.and_true, Bool.false_and, Bool.and_false, nI_1, not_true_eq_false, not_false_eq_true, vp_narI, o0, ↓fd0, ↓fd1, ↓fd2, ↓fd3, ↓fd4, ↓fd5, ↓fd6, ↓fd7, ↓fd8, ↓fd9, ↓fd10, ↓fd11, ↓fd12, ↓fd13, ↓fd14, ↓fd15, ↓fd16, ↓fd17, ↓fd18, ↓fd19, ↓fd20, h17, h18]
    refine c_M_doDown hM hg (Or.inr rfl) eg (fun h2 M2 V2 E2 => ?_)
    simp only [e144_0, e144_1, e144_4_c43, e144_4_c45, e144_4_c100, e144_4_c117, e144_4_c119, e144_56, e144_57, e144_58, e144_61, e144_64, e144_65, e144_66, e144_67, e144_70, e144_73, e144_74, e144_75, e144_76, e144_79, e144_80, e144_83, e144_86, e144_87, e144_88, e144_89, e144_92, e144_93, e144_96, e144_97, e144_98, e144_99, e144_102, e144_103, e144_106, e144_107, e144_108, e144_109, e144_112, e144_113, e144_116, e144_119, zpush, zopt_some, ↓reduceIte, List.getElem?_cons_succ, List.getElem?_cons_zero, beq_self_eq_true, true_and, and_true, Bool.true_and, Bool.and_true, Bool.false_and, Bool.and_false, nI_1, not_true_eq_false, not_false_eq_true, vp_narI]
    exact hQ h2 M2 V2 E2
  · subst hc
    simp only [↓reduceIte, (show ¬ (117 : Int32) = 43 by decide), (show ¬ (117 : Int32) = 45 by decide), (show ¬ (117 : Int32) = 119 by decide), (show ¬ (117 : Int32) = 100 by decide)] at hQ
    simp only [e144_0, e144_1, e144_4_c43, e144_4_c45, e144_4_c100, e144_4_c117, e144_4_c119, e144_56, e144_57, e144_58, e144_61, e144_64, e144_65, e144_66, e144_67, e144_70, e144_73, e144_74, e144_75, e144_76, e144_79, e144_80, e144_83, e144_86, e144_87, e144_88, e144_89, e144_92, e144_93, e144_96, e144_97, e144_98, e144_99, e144_102, e144_103, e144_106, e144_107, e144_108, e144_109, e144_112, e144_113, e144_116, e144_119, zpush, zopt_some, ↓reduceIte, List.getElem?_cons_succ, List.getElem?_cons_zero, beq_self_eq_true, true_and, and_true, Bool.true_and, Bool.and_true, Bool.false_and, Bool.and_false, nI_1, not_true_eq_false, not_false_eq_true, vp_narI, o0, ↓fd0, ↓fd1, ↓fd2, ↓fd3, ↓fd4, ↓fd5, ↓fd6, ↓fd7, ↓fd8, ↓fd9, ↓fd10, ↓fd11, ↓fd12, ↓fd13, ↓fd14, ↓fd15, ↓fd16, ↓fd17, ↓fd18, ↓fd19, ↓fd20, h17, h18]
    refine c_M_doDown hM hg (Or.inl rfl) eg (fun h2 M2 V2 E2 => ?_)
    simp only [e144_0, e144_1, e144_4_c43, e144_4_c45, e144_4_c100, e144_4_c117, e144_4_c119, e144_56, e144_57, e144_58, e144_61, e144_64, e144_65, e144_66, e144_67, e144_70, e144_73, e144_74, e144_75, e144_76, e144_79, e144_80, e144_83, e144_86, e144_87, e144_88, e144_89, e144_92, e144_93, e144_96, e144_97, e144_98, e144_99, e144_102, e144_103, e144_106, e144_107, e144_108, e144_109, e144_112, e144_113, e144_116, e144_119, zpush, zopt_some, ↓reduceIte, List.getElem?_cons_succ, List.getElem?_cons_zero, beq_self_eq_true, true_and, and_true, Bool.true_and, Bool.and_true, Bool.false_and, Bool.and_false, nI_1, not_true_eq_false, not_false_eq_true, vp_narI]
    exact hQ h2 M2 V2 E2
  · subst hc
    have h19 := h19 (Or.inl rfl)
    simp only [↓reduceIte, (show ¬ (119 : Int32) = 43 by decide), (show ¬ (119 : Int32) = 45 by decide)] at hQ
    simp only [e144_0, e144_1, e144_4_c43, e144_4_c45, e144_4_c100, e144_4_c117, e144_4_c119, e144_56, e144_57, e144_58, e144_61, e144_64, e144_65, e144_66, e144_67, e144_70, e144_73, e144_74, e144_75, e144_76, e144_79, e144_80, e144_83, e144_86, e144_87, e144_88, e144_89, e144_92, e144_93, e144_96, e144_97, e144_98, e144_99, e144_102, e144_103, e144_106, e144_107, e144_108, e144_109, e144_112, e144_113, e144_116, e144_119, zpush, zopt_some, ↓reduceIte, List.getElem?_cons_succ, List.getElem?_cons_zero, beq_self_eq_true, true_and, and_true, Bool.true_and, Bool.and_true, Bool.false_and, Bool.and_false, nI_1, not_true_eq_false, not_false_eq_true, vp_narI, o0, ↓fd0, ↓fd1, ↓fd2, ↓fd3, ↓fd4, ↓fd5, ↓fd6, ↓fd7, ↓fd8, ↓fd9, ↓fd10, ↓fd11, ↓fd12, ↓fd13, ↓fd14, ↓fd15, ↓fd16, ↓fd17, ↓fd18, ↓fd19, ↓fd20, h17, h18, h19]
    refine c_M_doWeigh hM hg eg (fun h2 M2 V2 E2 => ?_)
    simp only [e144_0, e144_1, e144_4_c43, e144_4_c45, e144_4_c100, e144_4_c117, e144_4_c119, e144_56, e144_57, e144_58, e144_61, e144_64, e144_65, e144_66, e144_67, e144_70, e144_73, e144_74, e144_75, e144_76, e144_79, e144_80, e144_83, e144_86, e144_87, e144_88, e144_89, e144_92, e144_93, e144_96, e144_97, e144_98, e144_99, e144_102, e144_103, e144_106, e144_107, e144_108, e144_109, e144_112, e144_113, e144_116, e144_119, zpush, zopt_some, ↓reduceIte, List.getElem?_cons_succ, List.getElem?_cons_zero, beq_self_eq_true, true_and, and_true, Bool.true_and, Bool.and_true, Bool.false_and, Bool.and_false, nI_1, not_true_eq_false, not_false_eq_true, vp_narI]
    exact hQ h2 M2 V2 E2
  · subst hc
    have h19 := h19 (Or.inr rfl)
    have d := fun {l0 : Nat} {X : zX} {Q : Option Value → zX → Prop} => @e144_4_d l0 112 X Q (by decide) (by decide) (by decide) (by decide) (by decide)
    simp only [↓reduceIte, (show ¬ (112 : Int32) = 43 by decide), (show ¬ (112 : Int32) = 45 by decide), (show ¬ (112 : Int32) = 119 by decide), (show ¬ (112 : Int32) = 100 by decide), (show ¬ (112 : Int32) = 117 by decide)] at hQ
    simp only [e144_0, e144_1, e144_4_c43, e144_4_c45, e144_4_c100, e144_4_c117, e144_4_c119, e144_56, e144_57, e144_58, e144_61, e144_64, e144_65, e144_66, e144_67, e144_70, e144_73, e144_74, e144_75, e144_76, e144_79, e144_80, e144_83, e144_86, e144_87, e144_88, e144_89, e144_92, e144_93, e144_96, e144_97, e144_98, e144_99, e144_102, e144_103, e144_106, e144_107, e144_108, e144_109, e144_112, e144_113, e144_116, e144_119, d, zpush, zopt_some, ↓reduceIte, List.getElem?_cons_succ, List.getElem?_cons_zero, beq_self_eq_true, true_and, and_true, Bool.true_and, Bool.and_true, Bool.false_and, Bool.and_false, nI_1, not_true_eq_false, not_false_eq_true, vp_narI, o0, ↓fd0, ↓fd1, ↓fd2, ↓fd3, ↓fd4, ↓fd5, ↓fd6, ↓fd7, ↓fd8, ↓fd9, ↓fd10, ↓fd11, ↓fd12, ↓fd13, ↓fd14, ↓fd15, ↓fd16, ↓fd17, ↓fd18, ↓fd19, ↓fd20, h17, h18, h19]
    refine c_M_doPin hM hg eg (fun h2 M2 V2 E2 => ?_)
    simp only [e144_0, e144_1, e144_4_c43, e144_4_c45, e144_4_c100, e144_4_c117, e144_4_c119, e144_56, e144_57, e144_58, e144_61, e144_64, e144_65, e144_66, e144_67, e144_70, e144_73, e144_74, e144_75, e144_76, e144_79, e144_80, e144_83, e144_86, e144_87, e144_88, e144_89, e144_92, e144_93, e144_96, e144_97, e144_98, e144_99, e144_102, e144_103, e144_106, e144_107, e144_108, e144_109, e144_112, e144_113, e144_116, e144_119, zpush, zopt_some, ↓reduceIte, List.getElem?_cons_succ, List.getElem?_cons_zero, beq_self_eq_true, true_and, and_true, Bool.true_and, Bool.and_true, Bool.false_and, Bool.and_false, nI_1, not_true_eq_false, not_false_eq_true, vp_narI]
    exact hQ h2 M2 V2 E2
theorem l_M_carryOut (hl : l ≤ 60) (h0 : List zC) (M0 : Nat → Nat → Int32) (ef : M0 14 = f) (v : Nat × (Nat → Int32)) (hQ : ∀ h' M' (b : Int32), zMv [0, 6, 7, 8, 9, 16, 17, 18, 19, 20] h0 M0 h' M' → M' 0 = v.2 → Ev 145 83 [.ref 108, .int (nI v.1), .int b] [] (h', z) Q) :
    ∀ (k d p : Nat) (g : Nat → Int32) (h : List zC) (M : Nat → Nat → Int32), p ≤ l → zG g → flt f l k p = -6 → cry f l k d p g = v → zMv [0, 6, 7, 8, 9, 16, 17, 18, 19, 20] h0 M0 h M → M 0 = g → zRd M l p → Ev 145 25 [.ref 108, .int (nI d), .int 1] [] (h, z) Q := by
  have n1 : ¬ (1 : Int32) = 0 := by decide
  intro k
  induction k with
  | zero =>
    intro d p g h M hp hg hf hv V eg hR
    rw [flt] at hf
    exact absurd hf (nI_ne6 (by omega))
  | succ k ih =>
    intro d p g h M hp hg hf hv V eg hR
    obtain ⟨o0, fd0, fd1, fd2, fd3, fd4, fd5, fd6, fd7, fd8, fd9, fd10, fd11, fd12, fd13, fd14, fd15, fd16, fd17, fd18, fd19, fd20, a0, a1, a2, a4, a5, a6, a7, a9, a10, a11, a14⟩ := V.mm.q
    have ef' := (V.k 14 rfl).trans ef
    have rl := rdO_le (f := f) hp
    rw [flt] at hf
    rw [cry] at hv
    have e1 : (rdO f l p).1 = true := by
      rw [← Bool.not_eq_false]
      intro e
      rw [e, if_neg (by decide)] at hf
      exact nI_ne6 (by omega) hf
    rw [e1, if_pos rfl] at hf hv
    rw [e145_25]
    simp only [e145_0, e145_1, e145_4, e145_6, e145_9, e145_11, e145_12, e145_13, e145_16, e145_17, e145_18, e145_21, e145_22, e145_23, e145_24, e145_26, e145_29, e145_30, e145_36, e145_37, e145_40, e145_43, e145_44, e145_47, e145_48, e145_49, e145_50, e145_51, e145_54, e145_55, e145_58, e145_59, e145_60, e145_61, e145_62, e145_65, e145_66, e145_68, e145_71, e145_74, e145_75, e145_78, e145_79, e145_80, e145_84, e145_85, e145_88, e145_89, e145_90, e145_93, zpush, zopt_some, ↓reduceIte, List.getElem?_cons_succ, List.getElem?_cons_zero, beq_self_eq_true, true_and, and_true, Bool.true_and, Bool.and_true, Bool.false_and, Bool.and_false, nI_1, not_true_eq_false, not_false_eq_true, vp_narI, o0, ↓fd0, ↓fd1, ↓fd2, ↓fd3, ↓fd4, ↓fd5, ↓fd6, ↓fd7, ↓fd8, ↓fd9, ↓fd10, ↓fd11, ↓fd12, ↓fd13, ↓fd14, ↓fd15, ↓fd16, ↓fd17, ↓fd18, ↓fd19, ↓fd20, n1]
    refine c_M_readsOrder V.mm hR hl ef' hp (fun h2 M2 V2 R2 O2 => ?_)
    have W2 := V.to V2 rfl
    obtain ⟨o1, o2, o3, o4⟩ := O2 e1
    have g2 : M2 0 = g := (V2.k 0 rfl).trans eg
    obtain ⟨o0, fd0, fd1, fd2, fd3, fd4, fd5, fd6, fd7, fd8, fd9, fd10, fd11, fd12, fd13, fd14, fd15, fd16, fd17, fd18, fd19, fd20, a0, a1, a2, a4, a5, a6, a7, a9, a10, a11, a14⟩ := V2.mm.q
    simp only [e145_0, e145_1, e145_4, e145_6, e145_9, e145_11, e145_12, e145_13, e145_16, e145_17, e145_18, e145_21, e145_22, e145_23, e145_24, e145_26, e145_29, e145_30, e145_33, e145_36, e145_37, e145_43, e145_44, e145_47, e145_48, e145_49, e145_50, e145_51, e145_54, e145_55, e145_58, e145_59, e145_60, e145_61, e145_62, e145_65, e145_66, e145_68, e145_71, e145_74, e145_75, e145_78, e145_79, e145_80, e145_84, e145_85, e145_88, e145_89, e145_90, e145_93, zpush, zopt_some, ↓reduceIte, List.getElem?_cons_succ, List.getElem?_cons_zero, beq_self_eq_true, true_and, and_true, Bool.true_and, Bool.and_true, Bool.false_and, Bool.and_false, nI_1, not_true_eq_false, not_false_eq_true, vp_narI, o0, ↓fd0, ↓fd1, ↓fd2, ↓fd3, ↓fd4, ↓fd5, ↓fd6, ↓fd7, ↓fd8, ↓fd9, ↓fd10, ↓fd11, ↓fd12, ↓fd13, ↓fd14, ↓fd15, ↓fd16, ↓fd17, ↓fd18, ↓fd19, ↓fd20, e1, zb_t, n1]
    refine c_M_doOrder (c := f p) (fi := rdV f l (p + 1)) (se := (rdO f l p).2.2) V2.mm hg g2 o1 o2 o3 o4 (fun h3 M3 V3 E3 => ?_)
    have W3 := W2.to V3 rfl
    have R3 : zRd M3 l (rdO f l p).2.1 := ⟨(congrFun (V3.k 15 rfl) 0).trans R2.1, (congrFun (V3.k 16 rfl) 0).trans R2.2⟩
    obtain ⟨o0, fd0, fd1, fd2, fd3, fd4, fd5, fd6, fd7, fd8, fd9, fd10, fd11, fd12, fd13, fd14, fd15, fd16, fd17, fd18, fd19, fd20, a0, a1, a2, a4, a5, a6, a7, a9, a10, a11, a14⟩ := V3.mm.q
    by_cases hr : (ordA g (f p) (rdV f l (p + 1)) (rdO f l p).2.2).1 < 0
    · rw [if_pos hr] at hv
      subst hv
      simp only [e145_0, e145_1, e145_4, e145_6, e145_9, e145_11, e145_12, e145_13, e145_16, e145_17, e145_18, e145_21, e145_22, e145_23, e145_24, e145_26, e145_29, e145_30, e145_33, e145_36, e145_37, e145_40, e145_43, e145_44, e145_47, e145_48, e145_49, e145_50, e145_51, e145_54, e145_55, e145_58, e145_59, e145_60, e145_61, e145_62, e145_65, e145_66, e145_68, e145_71, e145_74, e145_75, e145_78, e145_79, e145_80, e145_84, e145_85, e145_88, e145_89, e145_90, e145_93, zpush, zopt_some, ↓reduceIte, List.getElem?_cons_succ, List.getElem?_cons_zero, beq_self_eq_true, true_and, and_true, Bool.true_and, Bool.and_true, Bool.false_and, Bool.and_false, nI_1, not_true_eq_false, not_false_eq_true, vp_narI, o0, ↓fd0, ↓fd1, ↓fd2, ↓fd3, ↓fd4, ↓fd5, ↓fd6, ↓fd7, ↓fd8, ↓fd9, ↓fd10, ↓fd11, ↓fd12, ↓fd13, ↓fd14, ↓fd15, ↓fd16, ↓fd17, ↓fd18, ↓fd19, ↓fd20, hr, Int32.add_zero]
      rw [e145_25]
      simp only [e145_0, e145_1, e145_4, e145_6, e145_9, e145_11, e145_12, e145_13, e145_16, e145_17, e145_18, e145_21, e145_22, e145_23, e145_24, e145_26, e145_29, e145_30, e145_33, e145_36, e145_37, e145_40, e145_43, e145_44, e145_47, e145_48, e145_49, e145_50, e145_51, e145_54, e145_55, e145_58, e145_59, e145_60, e145_61, e145_62, e145_65, e145_66, e145_68, e145_71, e145_74, e145_75, e145_78, e145_79, e145_80, e145_84, e145_85, e145_88, e145_89, e145_90, e145_93, zpush, zopt_some, ↓reduceIte, List.getElem?_cons_succ, List.getElem?_cons_zero, beq_self_eq_true, true_and, and_true, Bool.true_and, Bool.and_true, Bool.false_and, Bool.and_false, nI_1, not_true_eq_false, not_false_eq_true, vp_narI]
      exact hQ h3 M3 0 W3 E3
    · rw [if_neg hr] at hv
      simp only [e145_0, e145_1, e145_4, e145_6, e145_9, e145_11, e145_12, e145_13, e145_16, e145_17, e145_18, e145_21, e145_22, e145_23, e145_24, e145_26, e145_29, e145_30, e145_33, e145_36, e145_37, e145_40, e145_43, e145_44, e145_47, e145_48, e145_49, e145_50, e145_51, e145_54, e145_55, e145_58, e145_59, e145_60, e145_61, e145_62, e145_65, e145_66, e145_68, e145_74, e145_75, e145_78, e145_79, e145_80, e145_84, e145_85, e145_88, e145_89, e145_90, e145_93, zpush, zopt_some, ↓reduceIte, List.getElem?_cons_succ, List.getElem?_cons_zero, beq_self_eq_true, true_and, and_true, Bool.true_and, Bool.and_true, Bool.false_and, Bool.and_false, nI_1, not_true_eq_false, not_false_eq_true, vp_narI, o0, ↓fd0, ↓fd1, ↓fd2, ↓fd3, ↓fd4, ↓fd5, ↓fd6, ↓fd7, ↓fd8, ↓fd9, ↓fd10, ↓fd11, ↓fd12, ↓fd13, ↓fd14, ↓fd15, ↓fd16, ↓fd17, ↓fd18, ↓fd19, ↓fd20, hr, n1]
      refine c_M_takes (f := f) V3.mm R3 hl (by rw [V3.k 14 rfl, V2.k 14 rfl]; exact ef') rl.2.1 (fun h4 M4 V4 R4 => ?_)
      have W4 := W3.to V4 rfl
      have E4 : M4 0 = (ordA g (f p) (rdV f l (p + 1)) (rdO f l p).2.2).2 := (V4.k 0 rfl).trans E3
      by_cases hle : l ≤ (rdO f l p).2.1
      · have hs : skB f l (rdO f l p).2.1 59 = false := by unfold skB; rw [show decide ((rdO f l p).2.1 < l) = false from decide_eq_false (by omega), Bool.false_and]
        have ha : skA f l (rdO f l p).2.1 59 = (rdO f l p).2.1 := by unfold skA; rw [hs, if_neg (by decide)]
        rw [ha] at hv
        have hv2 : (d + 1, (ordA g (f p) (rdV f l (p + 1)) (rdO f l p).2.2).2) = v := by
          rw [← hv]
          cases k with
          | zero => rfl
          | succ k => rw [cry, rdO_end hle, if_neg (by decide)]
        subst hv2
        simp only [e145_0, e145_1, e145_4, e145_6, e145_9, e145_11, e145_12, e145_13, e145_16, e145_17, e145_18, e145_21, e145_22, e145_23, e145_24, e145_26, e145_29, e145_30, e145_33, e145_36, e145_37, e145_40, e145_43, e145_44, e145_47, e145_48, e145_49, e145_50, e145_51, e145_54, e145_55, e145_58, e145_59, e145_60, e145_61, e145_62, e145_65, e145_66, e145_68, e145_71, e145_74, e145_75, e145_78, e145_79, e145_80, e145_84, e145_85, e145_88, e145_89, e145_90, e145_93, zpush, zopt_some, ↓reduceIte, List.getElem?_cons_succ, List.getElem?_cons_zero, beq_self_eq_true, true_and, and_true, Bool.true_and, Bool.and_true, Bool.false_and, Bool.and_false, nI_1, not_true_eq_false, not_false_eq_true, vp_narI, hs, zb_f]
        rw [e145_25]
        simp only [e145_0, e145_1, e145_4, e145_6, e145_9, e145_11, e145_12, e145_13, e145_16, e145_17, e145_18, e145_21, e145_22, e145_23, e145_24, e145_26, e145_29, e145_30, e145_33, e145_36, e145_37, e145_40, e145_43, e145_44, e145_47, e145_48, e145_49, e145_50, e145_51, e145_54, e145_55, e145_58, e145_59, e145_60, e145_61, e145_62, e145_65, e145_66, e145_68, e145_71, e145_74, e145_75, e145_78, e145_79, e145_80, e145_84, e145_85, e145_88, e145_89, e145_90, e145_93, zpush, zopt_some, ↓reduceIte, List.getElem?_cons_succ, List.getElem?_cons_zero, beq_self_eq_true, true_and, and_true, Bool.true_and, Bool.and_true, Bool.false_and, Bool.and_false, nI_1, not_true_eq_false, not_false_eq_true, vp_narI]
        exact hQ h4 M4 0 W4 E4
      · rw [if_neg hle] at hf
        have h5 : f (rdO f l p).2.1 = 59 := by
          by_cases h5 : f (rdO f l p).2.1 = 59
          · exact h5
          · rw [if_neg h5] at hf
            exact absurd hf (nI_ne6 (by omega))
        rw [if_pos h5] at hf
        have hs : skB f l (rdO f l p).2.1 59 = true := by unfold skB; rw [show decide ((rdO f l p).2.1 < l) = true from decide_eq_true (by omega), h5]; rfl
        have ha : skA f l (rdO f l p).2.1 59 = (rdO f l p).2.1 + 1 := by unfold skA; rw [hs, if_pos rfl]
        rw [ha] at hv R4
        simp only [e145_0, e145_1, e145_4, e145_6, e145_9, e145_11, e145_12, e145_13, e145_16, e145_17, e145_18, e145_21, e145_22, e145_23, e145_24, e145_26, e145_29, e145_30, e145_33, e145_36, e145_37, e145_40, e145_43, e145_44, e145_47, e145_48, e145_49, e145_50, e145_51, e145_54, e145_55, e145_58, e145_59, e145_60, e145_61, e145_62, e145_65, e145_66, e145_68, e145_71, e145_74, e145_75, e145_78, e145_79, e145_80, e145_84, e145_85, e145_88, e145_89, e145_90, e145_93, zpush, zopt_some, ↓reduceIte, List.getElem?_cons_succ, List.getElem?_cons_zero, beq_self_eq_true, true_and, and_true, Bool.true_and, Bool.and_true, Bool.false_and, Bool.and_false, nI_1, not_true_eq_false, not_false_eq_true, vp_narI, hs, zb_t, n1]
        exact ih (d + 1) _ _ h4 M4 (by omega) (zG_ordA hg) hf hv W4 E4 R4
theorem c_M_carryOut {n : Nat} {H : Nat → Nat → Int32} (hM : zMM h M) (hg : zG (M 0)) (hl : l ≤ 60) (h15 : M 15 0 = nI l) (ef : M 14 = f) (hH : zHm M n H) (hQ : ∀ h' M', zMv [0, 1, 2, 3, 6, 7, 8, 9, 15, 16, 17, 18, 19, 20] h M h' M' → M' 0 = (cryA f l (M 0)).2 → M' 15 0 = nI (cryL f l) → zHm M' (recN (cryA f l (M 0)).1 n) (recH (cryA f l (M 0)).1 n H (M 0)) → Q (some (.int (cryA f l (M 0)).1)) (h', z)) :
    Ev 145 0 [.ref 108, zU, zU] [] (h, z) Q := by
  obtain ⟨o0, fd0, fd1, fd2, fd3, fd4, fd5, fd6, fd7, fd8, fd9, fd10, fd11, fd12, fd13, fd14, fd15, fd16, fd17, fd18, fd19, fd20, a0, a1, a2, a4, a5, a6, a7, a9, a10, a11, a14⟩ := hM.q
  unfold cryA cryL at hQ
  simp only [e145_0, e145_1, e145_4, e145_6, e145_9, e145_11, e145_12, e145_13, e145_16, e145_17, e145_18, e145_21, e145_22, e145_23, e145_24, e145_26, e145_29, e145_30, e145_33, e145_36, e145_37, e145_40, e145_43, e145_44, e145_47, e145_48, e145_49, e145_50, e145_51, e145_54, e145_55, e145_58, e145_59, e145_60, e145_61, e145_62, e145_65, e145_66, e145_68, e145_71, e145_74, e145_75, e145_78, e145_79, e145_80, e145_83, e145_84, e145_85, e145_88, e145_89, e145_90, e145_93, zpush, zopt_some, ↓reduceIte, List.getElem?_cons_succ, List.getElem?_cons_zero, beq_self_eq_true, true_and, and_true, Bool.true_and, Bool.and_true, Bool.false_and, Bool.and_false, nI_1, not_true_eq_false, not_false_eq_true, vp_narI, o0, ↓fd0, ↓fd1, ↓fd2, ↓fd3, ↓fd4, ↓fd5, ↓fd6, ↓fd7, ↓fd8, ↓fd9, ↓fd10, ↓fd11, ↓fd12, ↓fd13, ↓fd14, ↓fd15, ↓fd16, ↓fd17, ↓fd18, ↓fd19, ↓fd20]
  refine c_M_fault hM hl h15 ef (fun h1 M1 V1 => ?_)
  have W1 := V1.mono (T' := [0, 1, 2, 3, 6, 7, 8, 9, 15, 16, 17, 18, 19, 20]) rfl
  obtain ⟨o0, fd0, fd1, fd2, fd3, fd4, fd5, fd6, fd7, fd8, fd9, fd10, fd11, fd12, fd13, fd14, fd15, fd16, fd17, fd18, fd19, fd20, a0, a1, a2, a4, a5, a6, a7, a9, a10, a11, a14⟩ := V1.mm.q
  by_cases hf : flt f l 60 0 = -6
  · simp only [hf, ↓reduceIte] at hQ
    simp only [e145_0, e145_1, e145_4, e145_6, e145_9, e145_11, e145_12, e145_13, e145_16, e145_17, e145_18, e145_21, e145_22, e145_23, e145_24, e145_26, e145_29, e145_30, e145_33, e145_36, e145_37, e145_40, e145_43, e145_44, e145_47, e145_48, e145_49, e145_50, e145_51, e145_54, e145_55, e145_58, e145_59, e145_60, e145_61, e145_62, e145_65, e145_66, e145_68, e145_71, e145_74, e145_75, e145_78, e145_79, e145_80, e145_83, e145_84, e145_85, e145_88, e145_89, e145_90, e145_93, zpush, zopt_some, ↓reduceIte, List.getElem?_cons_succ, List.getElem?_cons_zero, beq_self_eq_true, true_and, and_true, Bool.true_and, Bool.and_true, Bool.false_and, Bool.and_false, nI_1, not_true_eq_false, not_false_eq_true, vp_narI, o0, ↓fd0, ↓fd1, ↓fd2, ↓fd3, ↓fd4, ↓fd5, ↓fd6, ↓fd7, ↓fd8, ↓fd9, ↓fd10, ↓fd11, ↓fd12, ↓fd13, ↓fd14, ↓fd15, ↓fd16, ↓fd17, ↓fd18, ↓fd19, ↓fd20, hf]
    refine c_M_keep V1.mm (fun h2 M2 V2 E2 => ?_)
    have W2 := W1.to V2 rfl
    obtain ⟨o0, fd0, fd1, fd2, fd3, fd4, fd5, fd6, fd7, fd8, fd9, fd10, fd11, fd12, fd13, fd14, fd15, fd16, fd17, fd18, fd19, fd20, a0, a1, a2, a4, a5, a6, a7, a9, a10, a11, a14⟩ := V2.mm.q
    simp only [e145_0, e145_1, e145_4, e145_6, e145_9, e145_11, e145_12, e145_13, e145_16, e145_17, e145_18, e145_21, e145_22, e145_23, e145_24, e145_26, e145_29, e145_30, e145_33, e145_36, e145_37, e145_40, e145_43, e145_44, e145_47, e145_48, e145_49, e145_50, e145_51, e145_54, e145_55, e145_58, e145_59, e145_60, e145_61, e145_62, e145_65, e145_66, e145_68, e145_71, e145_74, e145_75, e145_78, e145_79, e145_80, e145_83, e145_84, e145_85, e145_88, e145_89, e145_90, e145_93, zpush, zopt_some, ↓reduceIte, List.getElem?_cons_succ, List.getElem?_cons_zero, beq_self_eq_true, true_and, and_true, Bool.true_and, Bool.and_true, Bool.false_and, Bool.and_false, nI_1, not_true_eq_false, not_false_eq_true, vp_narI, o0, ↓fd0, ↓fd1, ↓fd2, ↓fd3, ↓fd4, ↓fd5, ↓fd6, ↓fd7, ↓fd8, ↓fd9, ↓fd10, ↓fd11, ↓fd12, ↓fd13, ↓fd14, ↓fd15, ↓fd16, ↓fd17, ↓fd18, ↓fd19, ↓fd20]
    refine V2.mm.p16 (fun h3 M3 V3 E3 => ?_)
    have W3 := W2.to V3 rfl
    refine l_M_carryOut (f := f) hl h3 M3 (by rw [W3.k 14 rfl]; exact ef) (cry f l 60 0 0 (M 0)) (fun h4 M4 b V4 E4 => ?_) 60 0 0 (M 0) h3 M3 (by omega) hg hf rfl V3.mm.rf (by rw [V3.k 0 rfl, V2.k 0 rfl, V1.k 0 rfl]) ⟨by rw [V3.k 15 rfl, V2.k 15 rfl, V1.k 15 rfl]; exact h15, E3⟩
    have W4 := W3.to V4 rfl
    obtain ⟨o0, fd0, fd1, fd2, fd3, fd4, fd5, fd6, fd7, fd8, fd9, fd10, fd11, fd12, fd13, fd14, fd15, fd16, fd17, fd18, fd19, fd20, a0, a1, a2, a4, a5, a6, a7, a9, a10, a11, a14⟩ := V4.mm.q
    rw [e145_83]
    simp only [e145_0, e145_1, e145_4, e145_6, e145_9, e145_11, e145_12, e145_13, e145_16, e145_17, e145_18, e145_21, e145_22, e145_23, e145_24, e145_26, e145_29, e145_30, e145_33, e145_36, e145_37, e145_40, e145_43, e145_44, e145_47, e145_48, e145_49, e145_50, e145_51, e145_54, e145_55, e145_58, e145_59, e145_60, e145_61, e145_62, e145_65, e145_66, e145_68, e145_71, e145_74, e145_75, e145_78, e145_79, e145_80, e145_84, e145_88, e145_89, e145_90, e145_93, zpush, zopt_some, ↓reduceIte, List.getElem?_cons_succ, List.getElem?_cons_zero, beq_self_eq_true, true_and, and_true, Bool.true_and, Bool.and_true, Bool.false_and, Bool.and_false, nI_1, not_true_eq_false, not_false_eq_true, vp_narI, o0, ↓fd0, ↓fd1, ↓fd2, ↓fd3, ↓fd4, ↓fd5, ↓fd6, ↓fd7, ↓fd8, ↓fd9, ↓fd10, ↓fd11, ↓fd12, ↓fd13, ↓fd14, ↓fd15, ↓fd16, ↓fd17, ↓fd18, ↓fd19, ↓fd20]
    rw [e145_85]
    refine V4.mm.p15 (fun h5 M5 V5 E5 => ?_)
    have W5 := W4.to V5 rfl
    obtain ⟨o0, fd0, fd1, fd2, fd3, fd4, fd5, fd6, fd7, fd8, fd9, fd10, fd11, fd12, fd13, fd14, fd15, fd16, fd17, fd18, fd19, fd20, a0, a1, a2, a4, a5, a6, a7, a9, a10, a11, a14⟩ := V5.mm.q
    simp only [e145_0, e145_1, e145_4, e145_6, e145_9, e145_11, e145_12, e145_13, e145_16, e145_17, e145_18, e145_21, e145_22, e145_23, e145_24, e145_26, e145_29, e145_30, e145_33, e145_36, e145_37, e145_40, e145_43, e145_44, e145_47, e145_48, e145_49, e145_50, e145_51, e145_54, e145_55, e145_58, e145_59, e145_60, e145_61, e145_62, e145_65, e145_66, e145_68, e145_71, e145_74, e145_75, e145_78, e145_79, e145_80, e145_84, e145_85, e145_88, e145_89, e145_90, e145_93, zpush, zopt_some, ↓reduceIte, List.getElem?_cons_succ, List.getElem?_cons_zero, beq_self_eq_true, true_and, and_true, Bool.true_and, Bool.and_true, Bool.false_and, Bool.and_false, nI_1, not_true_eq_false, not_false_eq_true, vp_narI, o0, ↓fd0, ↓fd1, ↓fd2, ↓fd3, ↓fd4, ↓fd5, ↓fd6, ↓fd7, ↓fd8, ↓fd9, ↓fd10, ↓fd11, ↓fd12, ↓fd13, ↓fd14, ↓fd15, ↓fd16, ↓fd17, ↓fd18, ↓fd19, ↓fd20]
    refine c_M_chg (a := M 0) V5.mm (hH.k (by rw [V5.k 2 rfl, V4.k 2 rfl, V3.k 2 rfl, V2.k 2 rfl, V1.k 2 rfl]) (by rw [V5.k 3 rfl, V4.k 3 rfl, V3.k 3 rfl, V2.k 3 rfl, V1.k 3 rfl])) (fun q hq => by rw [V5.k 1 rfl, V4.k 1 rfl, V3.k 1 rfl, E2 q hq, V1.k 0 rfl]) (fun h6 M6 V6 H6 => ?_)
    simp only [e145_0, e145_1, e145_4, e145_6, e145_9, e145_11, e145_12, e145_13, e145_16, e145_17, e145_18, e145_21, e145_22, e145_23, e145_24, e145_26, e145_29, e145_30, e145_33, e145_36, e145_37, e145_40, e145_43, e145_44, e145_47, e145_48, e145_49, e145_50, e145_51, e145_54, e145_55, e145_58, e145_59, e145_60, e145_61, e145_62, e145_65, e145_66, e145_68, e145_71, e145_74, e145_75, e145_78, e145_79, e145_80, e145_84, e145_85, e145_88, e145_89, e145_90, e145_93, zpush, zopt_some, ↓reduceIte, List.getElem?_cons_succ, List.getElem?_cons_zero, beq_self_eq_true, true_and, and_true, Bool.true_and, Bool.and_true, Bool.false_and, Bool.and_false, nI_1, not_true_eq_false, not_false_eq_true, vp_narI]
    exact hQ h6 M6 (W5.to V6 rfl) (by rw [V6.k 0 rfl, V5.k 0 rfl]; exact E4) (by rw [V6.k 15 rfl]; exact E5) H6
  · simp only [hf, ↓reduceIte, recN, recH, (show (-3 : Int32) < 0 by decide)] at hQ
    simp only [e145_0, e145_1, e145_4, e145_6, e145_9, e145_11, e145_13, e145_16, e145_17, e145_18, e145_21, e145_22, e145_23, e145_24, e145_26, e145_29, e145_30, e145_33, e145_36, e145_37, e145_40, e145_43, e145_44, e145_47, e145_48, e145_49, e145_50, e145_51, e145_54, e145_55, e145_58, e145_59, e145_60, e145_61, e145_62, e145_65, e145_66, e145_68, e145_71, e145_74, e145_75, e145_78, e145_79, e145_80, e145_83, e145_84, e145_85, e145_88, e145_89, e145_90, e145_93, zpush, zopt_some, ↓reduceIte, List.getElem?_cons_succ, List.getElem?_cons_zero, beq_self_eq_true, true_and, and_true, Bool.true_and, Bool.and_true, Bool.false_and, Bool.and_false, nI_1, not_true_eq_false, not_false_eq_true, vp_narI, hf]
    exact hQ h1 M1 W1 (V1.k 0 rfl) ((congrFun (V1.k 15 rfl) 0).trans h15) (hH.k (V1.k 2 rfl) (V1.k 3 rfl))
end ZC
end
