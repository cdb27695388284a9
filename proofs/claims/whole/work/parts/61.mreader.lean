/-! the model reads orders -/
section
set_option maxRecDepth 100000
theorem in_I (x lo hi : Int32) : (decide (lo.toInt64 ≤ x.toInt64) && decide (x.toInt64 ≤ hi.toInt64)) = (decide (lo ≤ x) && decide (x ≤ hi)) := by
  rw [Bool.eq_iff_iff]
  simp only [Bool.and_eq_true, decide_eq_true_eq, Int64.le_iff_toInt_le, Int32.le_iff_toInt_le, Int32.toInt_toInt64]
theorem eq_I (x c : Int32) : (decide (c ≤ x) && decide (x ≤ c)) = decide (x = c) := by
  rw [Bool.eq_iff_iff]
  simp only [Bool.and_eq_true, decide_eq_true_eq]
  constructor
  · intro h; exact Int32.le_antisymm h.2 h.1
  · intro h; subst h; exact ⟨Int32.le_refl _, Int32.le_refl _⟩
def zRd (M : Nat → Nat → Int32) (l p : Nat) : Prop := M 15 0 = nI l ∧ M 16 0 = nI p
theorem zb_b (b : Bool) : (if b = true then (1 : Int32) else 0) = zb b := rfl
theorem sub48 (a : Nat) : nI (a + 48) - 48 = nI a := by
  rw [← nI_add]
  exact Int32.add_sub_cancel _ _
theorem digB_n {f : Nat → Int32} {l p : Nat} (h : skB f l p 48 = false) (hd : digB f l p = true) : ∃ d, 1 ≤ d ∧ d < 10 ∧ f p - 48 = nI d := by
  obtain ⟨hp, d, h1, h2, h3⟩ := digB_ex hd
  refine ⟨d, ?_, h1, h3⟩
  rcases Nat.eq_zero_or_pos d with h0 | h0
  · subst h0
    exfalso
    have : skB f l p 48 = true := by unfold skB; rw [h2]; simp [hp]; rfl
    rw [h] at this; cases this
  · exact h0
section ZC
variable {h : List zC} {z : Nat × (Nat × (Nat → Int32))} {M : Nat → Nat → Int32} {Q : Option Value → zX → Prop} {l p : Nat} {f : Nat → Int32}
theorem c_M_isHere {lo hi : Int32} (hM : zMM h M) (hR : zRd M l p) (hl : l ≤ 60) (ef : M 14 = f) (hp : p ≤ l) : Ev 137 0 [.ref 108, .int lo, .int hi] [] (h, z) Q = Q (some (.int (zb (decide (p < l) && (decide (lo ≤ f p) && decide (f p ≤ hi)))))) (h, z) := by
  obtain ⟨o0, fd0, fd1, fd2, fd3, fd4, fd5, fd6, fd7, fd8, fd9, fd10, fd11, fd12, fd13, fd14, fd15, fd16, fd17, fd18, fd19, fd20, a0, a1, a2, a4, a5, a6, a7, a9, a10, a11, a14⟩ := hM.q
  obtain ⟨r1, r2⟩ := hR
  rw [ef] at a14
  by_cases h1 : p < l
  · have e1 : ¬ nI l ≤ nI p := nI_ge h1 (by omega)
    have e2 : zinb (nI p) 60 = true := zinb_nI (by omega) (by decide)
    have e3 : (nI p).toNatClampNeg = p := nI_clamp (by omega)
    rw [show decide (p < l) = true from decide_eq_true h1, Bool.true_and]
    cases hb : (decide (lo ≤ f p) && decide (f p ≤ hi)) with
    | true => simp only [e137_0, e137_1, e137_4, e137_5, e137_8, e137_11, e137_12, e137_15, e137_16, e137_19, e137_20, e137_21, e137_22, e137_23, e137_24, e137_25, e137_28, e137_31, e137_32, e137_35, e137_36, zpush, zopt_some, ↓reduceIte, List.getElem?_cons_succ, List.getElem?_cons_zero, beq_self_eq_true, true_and, and_true, Bool.true_and, Bool.and_true, Bool.false_and, Bool.and_false, nI_1, not_true_eq_false, not_false_eq_true, vp_narI, o0, ↓fd0, ↓fd1, ↓fd2, ↓fd3, ↓fd4, ↓fd5, ↓fd6, ↓fd7, ↓fd8, ↓fd9, ↓fd10, ↓fd11, ↓fd12, ↓fd13, ↓fd14, ↓fd15, ↓fd16, ↓fd17, ↓fd18, ↓fd19, ↓fd20, ↓a14, r1, r2, e1, e2, e3, c_M_in, in_I, hb, zb_t, z1_and, (show ¬ (1 : Int32) = 0 by decide)]
    | false => simp only [e137_0, e137_1, e137_4, e137_5, e137_8, e137_11, e137_12, e137_15, e137_16, e137_19, e137_20, e137_21, e137_22, e137_23, e137_24, e137_25, e137_28, e137_31, e137_32, e137_35, e137_36, zpush, zopt_some, ↓reduceIte, List.getElem?_cons_succ, List.getElem?_cons_zero, beq_self_eq_true, true_and, and_true, Bool.true_and, Bool.and_true, Bool.false_and, Bool.and_false, nI_1, not_true_eq_false, not_false_eq_true, vp_narI, o0, ↓fd0, ↓fd1, ↓fd2, ↓fd3, ↓fd4, ↓fd5, ↓fd6, ↓fd7, ↓fd8, ↓fd9, ↓fd10, ↓fd11, ↓fd12, ↓fd13, ↓fd14, ↓fd15, ↓fd16, ↓fd17, ↓fd18, ↓fd19, ↓fd20, ↓a14, r1, r2, e1, e2, e3, c_M_in, in_I, hb, zb_f, z0_and]
  · have e1 : nI l ≤ nI p := nI_le (by omega) (by omega)
    rw [show decide (p < l) = false from decide_eq_false h1, Bool.false_and]
    simp only [e137_0, e137_1, e137_4, e137_5, e137_8, e137_12, e137_15, e137_16, e137_19, e137_20, e137_21, e137_22, e137_23, e137_24, e137_25, e137_28, e137_31, e137_32, e137_35, e137_36, zpush, zopt_some, ↓reduceIte, List.getElem?_cons_succ, List.getElem?_cons_zero, beq_self_eq_true, true_and, and_true, Bool.true_and, Bool.and_true, Bool.false_and, Bool.and_false, nI_1, not_true_eq_false, not_false_eq_true, vp_narI, o0, ↓fd0, ↓fd1, ↓fd2, ↓fd3, ↓fd4, ↓fd5, ↓fd6, ↓fd7, ↓fd8, ↓fd9, ↓fd10, ↓fd11, ↓fd12, ↓fd13, ↓fd14, ↓fd15, ↓fd16, ↓fd17, ↓fd18, ↓fd19, ↓fd20, r1, r2, e1, zb_f, z0_and]
theorem c_M_takes {c : Int32} (hM : zMM h M) (hR : zRd M l p) (hl : l ≤ 60) (ef : M 14 = f) (hp : p ≤ l) (hQ : ∀ h' M', zMv [16] h M h' M' → zRd M' l (skA f l p c) → Q (some (.int (zb (skB f l p c)))) (h', z)) :
    Ev 138 0 [.ref 108, .int c, zU] [] (h, z) Q := by
  obtain ⟨o0, fd0, fd1, fd2, fd3, fd4, fd5, fd6, fd7, fd8, fd9, fd10, fd11, fd12, fd13, fd14, fd15, fd16, fd17, fd18, fd19, fd20, a0, a1, a2, a4, a5, a6, a7, a9, a10, a11, a14⟩ := hM.q
  have hH := fun (Q : Option Value → zX → Prop) => c_M_isHere (lo := c) (hi := c) (z := z) (Q := Q) hM hR hl ef hp
  rw [eq_I] at hH
  have e0 : (decide (p < l) && decide (f p = c)) = skB f l p c := rfl
  rw [e0] at hH
  obtain ⟨r1, r2⟩ := id hR
  unfold skA at hQ
  cases hb : skB f l p c with
  | true =>
    rw [hb] at hH hQ
    simp only [↓reduceIte] at hQ
    simp only [e138_0, e138_1, e138_2, e138_3, e138_6, e138_7, e138_8, e138_9, e138_12, e138_13, e138_16, e138_17, e138_20, e138_21, e138_25, e138_26, zpush, zopt_some, ↓reduceIte, List.getElem?_cons_succ, List.getElem?_cons_zero, beq_self_eq_true, true_and, and_true, Bool.true_and, Bool.and_true, Bool.false_and, Bool.and_false, nI_1, not_true_eq_false, not_false_eq_true, vp_narI, o0, ↓fd0, ↓fd1, ↓fd2, ↓fd3, ↓fd4, ↓fd5, ↓fd6, ↓fd7, ↓fd8, ↓fd9, ↓fd10, ↓fd11, ↓fd12, ↓fd13, ↓fd14, ↓fd15, ↓fd16, ↓fd17, ↓fd18, ↓fd19, ↓fd20, hH, r2, zb_t, (show ¬ (1 : Int32) = 0 by decide)]
    rw [e138_22]
    refine hM.p16 (fun h2 M2 V2 E2 => ?_)
    simp only [e138_0, e138_1, e138_2, e138_3, e138_6, e138_7, e138_8, e138_9, e138_12, e138_13, e138_16, e138_17, e138_20, e138_21, e138_22, e138_25, e138_26, zpush, zopt_some, ↓reduceIte, List.getElem?_cons_succ, List.getElem?_cons_zero, beq_self_eq_true, true_and, and_true, Bool.true_and, Bool.and_true, Bool.false_and, Bool.and_false, nI_1, not_true_eq_false, not_false_eq_true, vp_narI, z1_and]
    exact hQ h2 M2 V2 ⟨(congrFun (V2.k 15 rfl) 0).trans r1, E2⟩
  | false =>
    rw [hb] at hH hQ
    simp only [Bool.false_eq_true, ↓reduceIte] at hQ
    simp only [e138_0, e138_1, e138_2, e138_3, e138_6, e138_7, e138_8, e138_9, e138_12, e138_13, e138_16, e138_17, e138_20, e138_21, e138_25, e138_26, zpush, zopt_some, ↓reduceIte, List.getElem?_cons_succ, List.getElem?_cons_zero, beq_self_eq_true, true_and, and_true, Bool.true_and, Bool.and_true, Bool.false_and, Bool.and_false, nI_1, not_true_eq_false, not_false_eq_true, vp_narI, o0, ↓fd0, ↓fd1, ↓fd2, ↓fd3, ↓fd4, ↓fd5, ↓fd6, ↓fd7, ↓fd8, ↓fd9, ↓fd10, ↓fd11, ↓fd12, ↓fd13, ↓fd14, ↓fd15, ↓fd16, ↓fd17, ↓fd18, ↓fd19, ↓fd20, hH, r2, zb_f, Int32.add_zero]
    rw [e138_22]
    refine hM.p16 (fun h2 M2 V2 E2 => ?_)
    simp only [e138_0, e138_1, e138_2, e138_3, e138_6, e138_7, e138_8, e138_9, e138_12, e138_13, e138_16, e138_17, e138_20, e138_21, e138_22, e138_25, e138_26, zpush, zopt_some, ↓reduceIte, List.getElem?_cons_succ, List.getElem?_cons_zero, beq_self_eq_true, true_and, and_true, Bool.true_and, Bool.and_true, Bool.false_and, Bool.and_false, nI_1, not_true_eq_false, not_false_eq_true, vp_narI, z0_and]
    exact hQ h2 M2 V2 ⟨(congrFun (V2.k 15 rfl) 0).trans r1, E2⟩
theorem l_M_readsNumber {N0 p0 : Nat} (hl : l ≤ 60) (h0 : List zC) (M0 : Nat → Nat → Int32) (ef : M0 14 = f) (hQ : ∀ h' M', zMv [16, 20] h0 M0 h' M' → zRd M' l p0 → M' 20 0 = nI N0 → Q (some (.int 1)) (h', z)) :
    ∀ (k N p : Nat) (h : List zC) (M : Nat → Nat → Int32), k ≤ 3 → 10 ^ (3 - k) ≤ N → N < 10 ^ (4 - k) → p ≤ l → numL f l k (nI N) p = (nI N0, p0) → zMv [16, 20] h0 M0 h M → zRd M l p → M 20 0 = nI N → Ev 139 39 [.ref 108] [] (h, z) Q := by
  intro k
  induction k with
  | zero =>
    intro N p h M hk h1 h2 hp hnum V hR hN
    obtain ⟨o0, fd0, fd1, fd2, fd3, fd4, fd5, fd6, fd7, fd8, fd9, fd10, fd11, fd12, fd13, fd14, fd15, fd16, fd17, fd18, fd19, fd20, a0, a1, a2, a4, a5, a6, a7, a9, a10, a11, a14⟩ := V.mm.q
    obtain ⟨r1, r2⟩ := id hR
    have fin : Q (some (.int 1)) (h, z) := by
      rw [numL] at hnum
      obtain ⟨n1, n2⟩ := Prod.mk.inj hnum
      exact hQ h M V (by rw [← n2]; exact hR) (by rw [hN, n1])
    have ef' : M 14 = f := (V.k 14 rfl).trans ef
    rw [ef'] at a14
    have e1 : ¬ nI N ≤ 0 := nI_nle (by omega) (by omega)
    have hH := fun (Q : Option Value → zX → Prop) => c_M_isHere (lo := 48) (hi := 57) (z := z) (Q := Q) V.mm hR hl ef' hp
    have e0 : (decide (p < l) && (decide ((48 : Int32) ≤ f p) && decide (f p ≤ 57))) = digB f l p := rfl
    rw [e0] at hH
    rw [e139_39]
    cases hb : digB f l p with
    | true =>
      obtain ⟨hp2, d, d1, d2, d3⟩ := digB_ex hb
      have e2 : zinb (nI p) 60 = true := zinb_nI (by omega) (by decide)
      have e3 : (nI p).toNatClampNeg = p := nI_clamp (by omega)
      have e4 : (10 : Int32) * nI N + nI (48 + d) - 48 = nI (10 * N + d) := by
        rw [show (10 : Int32) = nI 10 from rfl, pk_mul, nI_add, show 10 * N + (48 + d) = (10 * N + d) + 48 by omega, sub48]
      have e5 : (9999 : Int32) < nI (10 * N + d) := nI_lt (a := 9999) (by omega) (by omega)
      rw [hb] at hH
      simp only [e139_0, e139_1, e139_3, e139_5, e139_8, e139_11, e139_12, e139_13, e139_14, e139_15, e139_18, e139_19, e139_22, e139_23, e139_25, e139_26, e139_29, e139_30, e139_31, e139_34, e139_35, e139_36, e139_40, e139_43, e139_46, e139_47, e139_49, e139_51, e139_54, e139_57, e139_59, e139_60, e139_63, e139_64, e139_65, e139_68, e139_69, e139_72, e139_73, e139_74, e139_76, e139_77, e139_80, e139_83, e139_84, e139_86, e139_87, e139_90, e139_91, e139_92, e139_95, e139_96, e139_99, e139_100, e139_101, e139_103, e139_104, e139_107, e139_108, e139_109, e139_112, e139_113, e139_114, e139_117, e139_120, e139_121, zpush, zopt_some, ↓reduceIte, List.getElem?_cons_succ, List.getElem?_cons_zero, beq_self_eq_true, true_and, and_true, Bool.true_and, Bool.and_true, Bool.false_and, Bool.and_false, nI_1, not_true_eq_false, not_false_eq_true, vp_narI, o0, ↓fd0, ↓fd1, ↓fd2, ↓fd3, ↓fd4, ↓fd5, ↓fd6, ↓fd7, ↓fd8, ↓fd9, ↓fd10, ↓fd11, ↓fd12, ↓fd13, ↓fd14, ↓fd15, ↓fd16, ↓fd17, ↓fd18, ↓fd19, ↓fd20, ↓a14, hN, r2, e1, e2, e3, hH, d2, e4, e5, zb_t, z1_and, (show ¬ (1 : Int32) = 0 by decide)]
      exact fin
    | false =>
      rw [hb] at hH
      simp only [e139_0, e139_1, e139_3, e139_5, e139_8, e139_11, e139_12, e139_13, e139_14, e139_15, e139_18, e139_19, e139_22, e139_23, e139_25, e139_26, e139_29, e139_30, e139_31, e139_34, e139_35, e139_36, e139_40, e139_43, e139_46, e139_47, e139_49, e139_51, e139_54, e139_57, e139_59, e139_60, e139_63, e139_64, e139_65, e139_68, e139_69, e139_72, e139_73, e139_74, e139_76, e139_77, e139_80, e139_83, e139_84, e139_86, e139_87, e139_90, e139_91, e139_92, e139_95, e139_96, e139_99, e139_100, e139_101, e139_103, e139_104, e139_107, e139_108, e139_109, e139_112, e139_113, e139_114, e139_117, e139_120, e139_121, zpush, zopt_some, ↓reduceIte, List.getElem?_cons_succ, List.getElem?_cons_zero, beq_self_eq_true, true_and, and_true, Bool.true_and, Bool.and_true, Bool.false_and, Bool.and_false, nI_1, not_true_eq_false, not_false_eq_true, vp_narI, o0, ↓fd0, ↓fd1, ↓fd2, ↓fd3, ↓fd4, ↓fd5, ↓fd6, ↓fd7, ↓fd8, ↓fd9, ↓fd10, ↓fd11, ↓fd12, ↓fd13, ↓fd14, ↓fd15, ↓fd16, ↓fd17, ↓fd18, ↓fd19, ↓fd20, hN, e1, hH, zb_f, z1_and]
      exact fin
  | succ k ih =>
    intro N p h M hk h1 h2 hp hnum V hR hN
    obtain ⟨o0, fd0, fd1, fd2, fd3, fd4, fd5, fd6, fd7, fd8, fd9, fd10, fd11, fd12, fd13, fd14, fd15, fd16, fd17, fd18, fd19, fd20, a0, a1, a2, a4, a5, a6, a7, a9, a10, a11, a14⟩ := V.mm.q
    obtain ⟨r1, r2⟩ := id hR
    have ef' : M 14 = f := (V.k 14 rfl).trans ef
    rw [ef'] at a14
    have hN1 : 1 ≤ N := Nat.le_trans (Nat.pow_pos (by decide)) h1
    have hN9 : N < 1000 := by
      have : 10 ^ (4 - (k + 1)) ≤ 10 ^ 3 := Nat.pow_le_pow_right (by decide) (by omega)
      omega
    have e1 : ¬ nI N ≤ 0 := nI_nle (by omega) (by omega)
    have hH := fun (Q : Option Value → zX → Prop) => c_M_isHere (lo := 48) (hi := 57) (z := z) (Q := Q) V.mm hR hl ef' hp
    have e0 : (decide (p < l) && (decide ((48 : Int32) ≤ f p) && decide (f p ≤ 57))) = digB f l p := rfl
    rw [e0] at hH
    rw [e139_39]
    rw [numL] at hnum
    cases hb : digB f l p with
    | true =>
      obtain ⟨hp2, d, d1, d2, d3⟩ := digB_ex hb
      have e2 : zinb (nI p) 60 = true := zinb_nI (by omega) (by decide)
      have e3 : (nI p).toNatClampNeg = p := nI_clamp (by omega)
      have e4 : (10 : Int32) * nI N + nI (48 + d) - 48 = nI (10 * N + d) := by
        rw [show (10 : Int32) = nI 10 from rfl, pk_mul, nI_add, show 10 * N + (48 + d) = (10 * N + d) + 48 by omega, sub48]
      have e5 : ¬ (9999 : Int32) < nI (10 * N + d) := nI_nlt (a := 9999) (by omega) (by omega)
      rw [hb] at hH hnum
      rw [if_pos rfl, d3, show nI N * 10 + nI d = nI (10 * N + d) by rw [show (10 : Int32) = nI 10 from rfl, pk_mul, nI_add, Nat.mul_comm]] at hnum
      simp only [e139_0, e139_1, e139_3, e139_5, e139_8, e139_11, e139_12, e139_13, e139_14, e139_15, e139_18, e139_19, e139_22, e139_23, e139_25, e139_26, e139_29, e139_30, e139_31, e139_34, e139_35, e139_36, e139_40, e139_43, e139_46, e139_47, e139_49, e139_51, e139_54, e139_57, e139_59, e139_60, e139_63, e139_64, e139_65, e139_68, e139_69, e139_72, e139_73, e139_74, e139_76, e139_77, e139_80, e139_83, e139_84, e139_86, e139_87, e139_90, e139_91, e139_92, e139_95, e139_96, e139_99, e139_100, e139_101, e139_103, e139_104, e139_107, e139_108, e139_109, e139_112, e139_113, e139_117, e139_120, e139_121, zpush, zopt_some, ↓reduceIte, List.getElem?_cons_succ, List.getElem?_cons_zero, beq_self_eq_true, true_and, and_true, Bool.true_and, Bool.and_true, Bool.false_and, Bool.and_false, nI_1, not_true_eq_false, not_false_eq_true, vp_narI, o0, ↓fd0, ↓fd1, ↓fd2, ↓fd3, ↓fd4, ↓fd5, ↓fd6, ↓fd7, ↓fd8, ↓fd9, ↓fd10, ↓fd11, ↓fd12, ↓fd13, ↓fd14, ↓fd15, ↓fd16, ↓fd17, ↓fd18, ↓fd19, ↓fd20, ↓a14, hN, r2, e1, e2, e3, hH, d2, e4, e5, zb_t, (show ¬ (1 : Int32) = 0 by decide)]
      refine V.mm.p20 (fun h3 M3 V3 E3 => ?_)
      obtain ⟨o0, fd0, fd1, fd2, fd3, fd4, fd5, fd6, fd7, fd8, fd9, fd10, fd11, fd12, fd13, fd14, fd15, fd16, fd17, fd18, fd19, fd20, a0, a1, a2, a4, a5, a6, a7, a9, a10, a11, a14⟩ := V3.mm.q
      have r2' : M3 16 0 = nI p := (congrFun (V3.k 16 rfl) 0).trans r2
      simp only [e139_0, e139_1, e139_3, e139_5, e139_8, e139_11, e139_12, e139_13, e139_14, e139_15, e139_18, e139_19, e139_22, e139_23, e139_25, e139_26, e139_29, e139_30, e139_31, e139_34, e139_35, e139_36, e139_40, e139_43, e139_46, e139_47, e139_49, e139_51, e139_54, e139_57, e139_59, e139_60, e139_63, e139_64, e139_65, e139_68, e139_69, e139_72, e139_73, e139_74, e139_76, e139_77, e139_80, e139_83, e139_84, e139_86, e139_87, e139_90, e139_91, e139_92, e139_95, e139_96, e139_99, e139_100, e139_101, e139_103, e139_104, e139_107, e139_108, e139_109, e139_112, e139_113, e139_117, e139_120, e139_121, zpush, zopt_some, ↓reduceIte, List.getElem?_cons_succ, List.getElem?_cons_zero, beq_self_eq_true, true_and, and_true, Bool.true_and, Bool.and_true, Bool.false_and, Bool.and_false, nI_1, not_true_eq_false, not_false_eq_true, vp_narI, o0, ↓fd0, ↓fd1, ↓fd2, ↓fd3, ↓fd4, ↓fd5, ↓fd6, ↓fd7, ↓fd8, ↓fd9, ↓fd10, ↓fd11, ↓fd12, ↓fd13, ↓fd14, ↓fd15, ↓fd16, ↓fd17, ↓fd18, ↓fd19, ↓fd20, r2']
      rw [e139_114]
      refine V3.mm.p16 (fun h4 M4 V4 E4 => ?_)
      simp only [e139_0, e139_1, e139_3, e139_5, e139_8, e139_11, e139_12, e139_13, e139_14, e139_15, e139_18, e139_19, e139_22, e139_23, e139_25, e139_26, e139_29, e139_30, e139_31, e139_34, e139_35, e139_36, e139_40, e139_43, e139_46, e139_47, e139_49, e139_51, e139_54, e139_57, e139_59, e139_60, e139_63, e139_64, e139_65, e139_68, e139_69, e139_72, e139_73, e139_74, e139_76, e139_77, e139_80, e139_83, e139_84, e139_86, e139_87, e139_90, e139_91, e139_92, e139_95, e139_96, e139_99, e139_100, e139_101, e139_103, e139_104, e139_107, e139_108, e139_109, e139_112, e139_113, e139_117, e139_120, e139_121, zpush, zopt_some, ↓reduceIte, List.getElem?_cons_succ, List.getElem?_cons_zero, beq_self_eq_true, true_and, and_true, Bool.true_and, Bool.and_true, Bool.false_and, Bool.and_false, nI_1, not_true_eq_false, not_false_eq_true, vp_narI]
      refine ih (10 * N + d) (p + 1) h4 M4 (by omega) ?_ ?_ (by omega) hnum ((V.to V3 rfl).to V4 rfl) ⟨?_, E4⟩ ?_
      · have : 10 ^ (3 - k) = 10 ^ (3 - (k + 1)) * 10 := by rw [← Nat.pow_succ]; congr 1; omega
        omega
      · have : 10 ^ (4 - k) = 10 ^ (4 - (k + 1)) * 10 := by rw [← Nat.pow_succ]; congr 1; omega
        omega
      · rw [V4.k 15 rfl, V3.k 15 rfl]; exact r1
      · rw [V4.k 20 rfl]; exact E3
    | false =>
      rw [hb] at hH hnum
      rw [if_neg (by decide)] at hnum
      obtain ⟨n1, n2⟩ := Prod.mk.inj hnum
      simp only [e139_0, e139_1, e139_3, e139_5, e139_8, e139_11, e139_12, e139_13, e139_14, e139_15, e139_18, e139_19, e139_22, e139_23, e139_25, e139_26, e139_29, e139_30, e139_31, e139_34, e139_35, e139_36, e139_40, e139_43, e139_46, e139_47, e139_49, e139_51, e139_54, e139_57, e139_59, e139_60, e139_63, e139_64, e139_65, e139_68, e139_69, e139_72, e139_73, e139_74, e139_76, e139_77, e139_80, e139_83, e139_84, e139_86, e139_87, e139_90, e139_91, e139_92, e139_95, e139_96, e139_99, e139_100, e139_101, e139_103, e139_104, e139_107, e139_108, e139_109, e139_112, e139_113, e139_114, e139_117, e139_120, e139_121, zpush, zopt_some, ↓reduceIte, List.getElem?_cons_succ, List.getElem?_cons_zero, beq_self_eq_true, true_and, and_true, Bool.true_and, Bool.and_true, Bool.false_and, Bool.and_false, nI_1, not_true_eq_false, not_false_eq_true, vp_narI, o0, ↓fd0, ↓fd1, ↓fd2, ↓fd3, ↓fd4, ↓fd5, ↓fd6, ↓fd7, ↓fd8, ↓fd9, ↓fd10, ↓fd11, ↓fd12, ↓fd13, ↓fd14, ↓fd15, ↓fd16, ↓fd17, ↓fd18, ↓fd19, ↓fd20, hN, e1, hH, zb_f, z1_and]
      exact hQ h M V (by rw [← n2]; exact hR) (by rw [hN, n1])
theorem c_M_readsNumber (hM : zMM h M) (hR : zRd M l p) (hl : l ≤ 60) (ef : M 14 = f) (hp : p ≤ l) (hQ : ∀ h' M', zMv [16, 20] h M h' M' → zRd M' l (rdA f l p) → (¬ rdV f l p = -6 → M' 20 0 = rdV f l p) → Q (some (.int (zb (!decide (rdV f l p = -6))))) (h', z)) :
    Ev 139 0 [.ref 108] [] (h, z) Q := by
  obtain ⟨o0, fd0, fd1, fd2, fd3, fd4, fd5, fd6, fd7, fd8, fd9, fd10, fd11, fd12, fd13, fd14, fd15, fd16, fd17, fd18, fd19, fd20, a0, a1, a2, a4, a5, a6, a7, a9, a10, a11, a14⟩ := hM.q
  obtain ⟨r1, r2⟩ := id hR
  rw [ef] at a14
  have hH := fun (Q : Option Value → zX → Prop) => c_M_isHere (lo := 48) (hi := 57) (z := z) (Q := Q) hM hR hl ef hp
  have e0 : (decide (p < l) && (decide ((48 : Int32) ≤ f p) && decide (f p ≤ 57))) = digB f l p := rfl
  rw [e0] at hH
  cases hb : digB f l p with
  | false =>
    have hs : skB f l p 48 = false := by
      rw [← Bool.not_eq_true]
      intro hs
      obtain ⟨s1, s2⟩ := skB_lt hs
      have : digB f l p = true := by unfold digB; rw [s2]; simp [s1]
      rw [hb] at this; cases this
    have hn : numL f l 4 0 p = (0, p) := by rw [numL, hb, if_neg (by decide)]
    have v1 : rdV f l p = -6 := by unfold rdV; rw [hs, if_neg (by decide), hn, if_pos rfl]
    have v2 : rdA f l p = p := by unfold rdA; rw [hs, if_neg (by decide), hn]
    rw [v1, v2] at hQ
    rw [hb] at hH
    simp only [e139_0, e139_1, e139_3, e139_5, e139_8, e139_11, e139_12, e139_14, e139_15, e139_18, e139_19, e139_22, e139_23, e139_25, e139_26, e139_29, e139_30, e139_31, e139_34, e139_35, e139_36, e139_39, e139_40, e139_43, e139_46, e139_47, e139_49, e139_51, e139_54, e139_57, e139_59, e139_60, e139_63, e139_64, e139_65, e139_68, e139_69, e139_72, e139_73, e139_74, e139_76, e139_77, e139_80, e139_83, e139_84, e139_86, e139_87, e139_90, e139_91, e139_92, e139_95, e139_96, e139_99, e139_100, e139_101, e139_103, e139_104, e139_107, e139_108, e139_109, e139_112, e139_113, e139_114, e139_117, e139_120, e139_121, zpush, zopt_some, ↓reduceIte, List.getElem?_cons_succ, List.getElem?_cons_zero, beq_self_eq_true, true_and, and_true, Bool.true_and, Bool.and_true, Bool.false_and, Bool.and_false, nI_1, not_true_eq_false, not_false_eq_true, vp_narI, o0, ↓fd0, ↓fd1, ↓fd2, ↓fd3, ↓fd4, ↓fd5, ↓fd6, ↓fd7, ↓fd8, ↓fd9, ↓fd10, ↓fd11, ↓fd12, ↓fd13, ↓fd14, ↓fd15, ↓fd16, ↓fd17, ↓fd18, ↓fd19, ↓fd20, hH, zb_f, z0_and]
    exact hQ h M hM.rf hR (fun h => absurd rfl h)
  | true =>
    obtain ⟨hp2, d, d1, d2, d3⟩ := digB_ex hb
    have e2 : zinb (nI p) 60 = true := zinb_nI (by omega) (by decide)
    have e3 : (nI p).toNatClampNeg = p := nI_clamp (by omega)
    rw [hb] at hH
    simp only [e139_0, e139_1, e139_3, e139_5, e139_8, e139_11, e139_12, e139_13, e139_14, e139_15, e139_18, e139_19, e139_22, e139_23, e139_25, e139_26, e139_29, e139_30, e139_31, e139_34, e139_35, e139_36, e139_40, e139_43, e139_46, e139_47, e139_49, e139_51, e139_54, e139_57, e139_59, e139_60, e139_63, e139_64, e139_65, e139_68, e139_69, e139_72, e139_73, e139_74, e139_76, e139_77, e139_80, e139_83, e139_84, e139_86, e139_87, e139_90, e139_91, e139_92, e139_95, e139_96, e139_99, e139_100, e139_101, e139_103, e139_104, e139_107, e139_108, e139_109, e139_112, e139_113, e139_114, e139_117, e139_120, e139_121, zpush, zopt_some, ↓reduceIte, List.getElem?_cons_succ, List.getElem?_cons_zero, beq_self_eq_true, true_and, and_true, Bool.true_and, Bool.and_true, Bool.false_and, Bool.and_false, nI_1, not_true_eq_false, not_false_eq_true, vp_narI, o0, ↓fd0, ↓fd1, ↓fd2, ↓fd3, ↓fd4, ↓fd5, ↓fd6, ↓fd7, ↓fd8, ↓fd9, ↓fd10, ↓fd11, ↓fd12, ↓fd13, ↓fd14, ↓fd15, ↓fd16, ↓fd17, ↓fd18, ↓fd19, ↓fd20, ↓a14, r2, e2, e3, hH, d3, zb_t, (show ¬ (1 : Int32) = 0 by decide), not_false_eq_true]
    refine hM.p20 (fun h3 M3 V3 E3 => ?_)
    obtain ⟨o0, fd0, fd1, fd2, fd3, fd4, fd5, fd6, fd7, fd8, fd9, fd10, fd11, fd12, fd13, fd14, fd15, fd16, fd17, fd18, fd19, fd20, a0, a1, a2, a4, a5, a6, a7, a9, a10, a11, a14⟩ := V3.mm.q
    have r2' : M3 16 0 = nI p := (congrFun (V3.k 16 rfl) 0).trans r2
    simp only [e139_0, e139_1, e139_3, e139_5, e139_8, e139_11, e139_12, e139_13, e139_14, e139_15, e139_18, e139_19, e139_22, e139_23, e139_25, e139_26, e139_29, e139_30, e139_31, e139_34, e139_35, e139_40, e139_43, e139_46, e139_47, e139_49, e139_51, e139_54, e139_57, e139_59, e139_60, e139_63, e139_64, e139_65, e139_68, e139_69, e139_72, e139_73, e139_74, e139_76, e139_77, e139_80, e139_83, e139_84, e139_86, e139_87, e139_90, e139_91, e139_92, e139_95, e139_96, e139_99, e139_100, e139_101, e139_103, e139_104, e139_107, e139_108, e139_109, e139_112, e139_113, e139_114, e139_117, e139_120, e139_121, zpush, zopt_some, ↓reduceIte, List.getElem?_cons_succ, List.getElem?_cons_zero, beq_self_eq_true, true_and, and_true, Bool.true_and, Bool.and_true, Bool.false_and, Bool.and_false, nI_1, not_true_eq_false, not_false_eq_true, vp_narI, o0, ↓fd0, ↓fd1, ↓fd2, ↓fd3, ↓fd4, ↓fd5, ↓fd6, ↓fd7, ↓fd8, ↓fd9, ↓fd10, ↓fd11, ↓fd12, ↓fd13, ↓fd14, ↓fd15, ↓fd16, ↓fd17, ↓fd18, ↓fd19, ↓fd20, r2']
    rw [e139_36]
    refine V3.mm.p16 (fun h4 M4 V4 E4 => ?_)
    have W4 := (V3.mono (T' := [16, 20]) rfl).to V4 rfl
    have R4 : zRd M4 l (p + 1) := ⟨by rw [V4.k 15 rfl, V3.k 15 rfl]; exact r1, E4⟩
    have N4 : M4 20 0 = nI d := by rw [V4.k 20 rfl]; exact E3
    cases hs : skB f l p 48 with
    | true =>
      obtain ⟨s1, s2⟩ := skB_lt hs
      have hd0 : nI d = 0 := by rw [← d3, s2]; decide
      have v1 : rdV f l p = 0 := by unfold rdV; rw [hs, if_pos rfl]
      have v2 : rdA f l p = p + 1 := by unfold rdA; rw [hs, if_pos rfl]
      rw [v1, v2] at hQ
      obtain ⟨o0, fd0, fd1, fd2, fd3, fd4, fd5, fd6, fd7, fd8, fd9, fd10, fd11, fd12, fd13, fd14, fd15, fd16, fd17, fd18, fd19, fd20, a0, a1, a2, a4, a5, a6, a7, a9, a10, a11, a14⟩ := V4.mm.q
      rw [e139_39]
      simp only [e139_0, e139_1, e139_3, e139_5, e139_8, e139_11, e139_12, e139_13, e139_14, e139_15, e139_18, e139_19, e139_22, e139_23, e139_25, e139_26, e139_29, e139_30, e139_31, e139_34, e139_35, e139_36, e139_40, e139_43, e139_46, e139_47, e139_49, e139_51, e139_54, e139_57, e139_59, e139_60, e139_63, e139_64, e139_65, e139_68, e139_69, e139_72, e139_73, e139_74, e139_76, e139_77, e139_80, e139_83, e139_84, e139_86, e139_87, e139_90, e139_91, e139_92, e139_95, e139_96, e139_99, e139_100, e139_101, e139_103, e139_104, e139_107, e139_108, e139_109, e139_112, e139_113, e139_114, e139_117, e139_120, e139_121, zpush, zopt_some, ↓reduceIte, List.getElem?_cons_succ, List.getElem?_cons_zero, beq_self_eq_true, true_and, and_true, Bool.true_and, Bool.and_true, Bool.false_and, Bool.and_false, nI_1, not_true_eq_false, not_false_eq_true, vp_narI, o0, ↓fd0, ↓fd1, ↓fd2, ↓fd3, ↓fd4, ↓fd5, ↓fd6, ↓fd7, ↓fd8, ↓fd9, ↓fd10, ↓fd11, ↓fd12, ↓fd13, ↓fd14, ↓fd15, ↓fd16, ↓fd17, ↓fd18, ↓fd19, ↓fd20, N4, hd0, (show (0 : Int32) ≤ 0 by decide), z1_and]
      exact hQ h4 M4 W4 R4 (fun _ => by rw [N4, hd0])
    | false =>
      obtain ⟨d', g1, g2, g3⟩ := digB_n hs hb
      have hdd : d' = d := (nI_eq (by omega) (by omega)).mp (by rw [← g3, ← d3])
      subst hdd
      have hn : numL f l 4 0 p = numL f l 3 (nI d') (p + 1) := by
        rw [numL, hb, if_pos rfl, d3]
        congr 1
        rw [show (0 : Int32) * 10 + nI d' = nI d' by rw [show (0 : Int32) * 10 = 0 by decide, Int32.zero_add]]
      have hle := numL_le f l 3 (nI d') (p + 1) (by omega)
      obtain ⟨N', q1, q2⟩ := numL_N f l 3 d' (p + 1)
      have v1 : rdV f l p = nI N' := by
        unfold rdV
        rw [hs, if_neg (by decide), hn, if_neg (by omega), q1]
      have v2 : rdA f l p = (numL f l 3 (nI d') (p + 1)).2 := by unfold rdA; rw [hs, if_neg (by decide), hn]
      have hN6 : ¬ nI N' = -6 := nI_ne6 (by omega)
      rw [v1, v2, show decide (nI N' = -6) = false from decide_eq_false hN6] at hQ
      refine l_M_readsNumber (N0 := N') (p0 := (numL f l 3 (nI d') (p + 1)).2) hl h M ef (fun h5 M5 V5 R5 N5 => hQ h5 M5 V5 R5 (fun _ => N5)) 3 d' (p + 1) h4 M4 (by omega) (by omega) (by omega) (by omega) (by rw [← q1]) W4 R4 N4
theorem c_M_isOrder {c : Int32} {X : zX} : Ev 140 0 [.int c] [] X Q = Q (some (.int (zb (isO c)))) X := by
  unfold isO
  by_cases c1 : c = 43
  · subst c1; simp only [e140_0, e140_1, e140_3, e140_6, e140_7, e140_9, e140_12, e140_13, e140_15, e140_18, e140_19, e140_21, e140_24, e140_25, e140_27, e140_30, e140_31, e140_33, e140_36, e140_37, e140_40, e140_41, zpush, zopt_some, ↓reduceIte, List.getElem?_cons_succ, List.getElem?_cons_zero, beq_self_eq_true, true_and, and_true, Bool.true_and, Bool.and_true, Bool.false_and, Bool.and_false, nI_1, not_true_eq_false, not_false_eq_true, vp_narI, z1_and, decide_true, Bool.true_or, zb_t]
  by_cases c2 : c = 45
  · subst c2; simp only [e140_0, e140_1, e140_3, e140_6, e140_7, e140_9, e140_12, e140_13, e140_15, e140_18, e140_19, e140_21, e140_24, e140_25, e140_27, e140_30, e140_31, e140_33, e140_36, e140_37, e140_40, e140_41, zpush, zopt_some, ↓reduceIte, List.getElem?_cons_succ, List.getElem?_cons_zero, beq_self_eq_true, true_and, and_true, Bool.true_and, Bool.and_true, Bool.false_and, Bool.and_false, nI_1, not_true_eq_false, not_false_eq_true, vp_narI, c1, z1_and, decide_true, Bool.true_or, Bool.or_true, zb_t]
  by_cases c3 : c = 119
  · subst c3; simp only [e140_0, e140_1, e140_3, e140_6, e140_7, e140_9, e140_12, e140_13, e140_15, e140_18, e140_19, e140_21, e140_24, e140_25, e140_27, e140_30, e140_31, e140_33, e140_36, e140_37, e140_40, e140_41, zpush, zopt_some, ↓reduceIte, List.getElem?_cons_succ, List.getElem?_cons_zero, beq_self_eq_true, true_and, and_true, Bool.true_and, Bool.and_true, Bool.false_and, Bool.and_false, nI_1, not_true_eq_false, not_false_eq_true, vp_narI, c1, c2, z1_and, decide_true, Bool.true_or, Bool.or_true, zb_t]
  by_cases c4 : c = 100
  · subst c4; simp only [e140_0, e140_1, e140_3, e140_6, e140_7, e140_9, e140_12, e140_13, e140_15, e140_18, e140_19, e140_21, e140_24, e140_25, e140_27, e140_30, e140_31, e140_33, e140_36, e140_37, e140_40, e140_41, zpush, zopt_some, ↓reduceIte, List.getElem?_cons_succ, List.getElem?_cons_zero, beq_self_eq_true, true_and, and_true, Bool.true_and, Bool.and_true, Bool.false_and, Bool.and_false, nI_1, not_true_eq_false, not_false_eq_true, vp_narI, c1, c2, c3, z1_and, decide_true, Bool.true_or, Bool.or_true, zb_t]
  by_cases c5 : c = 117
  · subst c5; simp only [e140_0, e140_1, e140_3, e140_6, e140_7, e140_9, e140_12, e140_13, e140_15, e140_18, e140_19, e140_21, e140_24, e140_25, e140_27, e140_30, e140_31, e140_33, e140_36, e140_37, e140_40, e140_41, zpush, zopt_some, ↓reduceIte, List.getElem?_cons_succ, List.getElem?_cons_zero, beq_self_eq_true, true_and, and_true, Bool.true_and, Bool.and_true, Bool.false_and, Bool.and_false, nI_1, not_true_eq_false, not_false_eq_true, vp_narI, c1, c2, c3, c4, z1_and, decide_true, Bool.true_or, Bool.or_true, zb_t]
  by_cases c6 : c = 112
  · subst c6; simp only [e140_0, e140_1, e140_3, e140_6, e140_7, e140_9, e140_12, e140_13, e140_15, e140_18, e140_19, e140_21, e140_24, e140_25, e140_27, e140_30, e140_31, e140_33, e140_36, e140_37, e140_40, e140_41, zpush, zopt_some, ↓reduceIte, List.getElem?_cons_succ, List.getElem?_cons_zero, beq_self_eq_true, true_and, and_true, Bool.true_and, Bool.and_true, Bool.false_and, Bool.and_false, nI_1, not_true_eq_false, not_false_eq_true, vp_narI, c1, c2, c3, c4, c5, z1_and, decide_true, Bool.true_or, Bool.or_true, zb_t, not_true_eq_false]
  simp only [e140_0, e140_1, e140_3, e140_6, e140_7, e140_9, e140_12, e140_13, e140_15, e140_18, e140_19, e140_21, e140_24, e140_25, e140_27, e140_30, e140_31, e140_33, e140_36, e140_37, e140_40, e140_41, zpush, zopt_some, ↓reduceIte, List.getElem?_cons_succ, List.getElem?_cons_zero, beq_self_eq_true, true_and, and_true, Bool.true_and, Bool.and_true, Bool.false_and, Bool.and_false, nI_1, not_true_eq_false, not_false_eq_true, vp_narI, c1, c2, c3, c4, c5, c6, not_false_eq_true, z0_and, decide_false, Bool.or_false, zb_f]
theorem c_M_readsSecond {c : Int32} (hM : zMM h M) (hR : zRd M l p) (hl : l ≤ 60) (ef : M 14 = f) (hp : p ≤ l) (hc : M 17 0 = c) (hQ : ∀ h' M', zMv [16, 20] h M h' M' → zRd M' l (rd2 f l c p).2.1 → ((rd2 f l c p).1 = true → c = 119 ∨ c = 112 → M' 20 0 = (rd2 f l c p).2.2) → Q (some (.int (zb (rd2 f l c p).1))) (h', z)) :
    Ev 141 0 [.ref 108] [] (h, z) Q := by
  obtain ⟨o0, fd0, fd1, fd2, fd3, fd4, fd5, fd6, fd7, fd8, fd9, fd10, fd11, fd12, fd13, fd14, fd15, fd16, fd17, fd18, fd19, fd20, a0, a1, a2, a4, a5, a6, a7, a9, a10, a11, a14⟩ := hM.q
  have n1 : ¬ (1 : Int32) = 0 := by decide
  unfold rd2 at hQ
  by_cases c1 : c = 119
  · rw [if_pos c1] at hQ
    simp only [e141_0, e141_1, e141_4, e141_6, e141_9, e141_10, e141_12, e141_18, e141_19, e141_22, e141_25, e141_26, e141_29, e141_30, e141_31, e141_32, e141_35, e141_37, e141_40, e141_41, e141_42, e141_43, e141_45, e141_48, e141_51, e141_52, e141_53, e141_54, e141_56, e141_59, e141_62, e141_63, e141_65, e141_68, e141_69, e141_70, e141_71, e141_74, zpush, zopt_some, ↓reduceIte, List.getElem?_cons_succ, List.getElem?_cons_zero, beq_self_eq_true, true_and, and_true, Bool.true_and, Bool.and_true, Bool.false_and, Bool.and_false, nI_1, not_true_eq_false, not_false_eq_true, vp_narI, o0, ↓fd0, ↓fd1, ↓fd2, ↓fd3, ↓fd4, ↓fd5, ↓fd6, ↓fd7, ↓fd8, ↓fd9, ↓fd10, ↓fd11, ↓fd12, ↓fd13, ↓fd14, ↓fd15, ↓fd16, ↓fd17, ↓fd18, ↓fd19, ↓fd20, hc, c1, not_true_eq_false]
    refine c_M_takes hM hR hl ef hp (fun h1 M1 V1 R1 => ?_)
    cases hs : skB f l p 61 with
    | false =>
      rw [hs, if_neg (by decide)] at hQ
      unfold skA at R1
      rw [hs, if_neg (by decide)] at R1
      simp only [e141_0, e141_1, e141_4, e141_6, e141_9, e141_10, e141_12, e141_15, e141_19, e141_22, e141_25, e141_26, e141_29, e141_30, e141_31, e141_32, e141_35, e141_37, e141_40, e141_41, e141_42, e141_43, e141_45, e141_48, e141_51, e141_52, e141_53, e141_54, e141_56, e141_59, e141_62, e141_63, e141_65, e141_68, e141_69, e141_70, e141_71, e141_74, zpush, zopt_some, ↓reduceIte, List.getElem?_cons_succ, List.getElem?_cons_zero, beq_self_eq_true, true_and, and_true, Bool.true_and, Bool.and_true, Bool.false_and, Bool.and_false, nI_1, not_true_eq_false, not_false_eq_true, vp_narI, zb_f, z0_and]
      exact hQ h1 M1 (V1.mono rfl) R1 (fun e => by cases e)
    | true =>
      obtain ⟨s1, s2⟩ := skB_lt hs
      rw [hs, if_pos rfl] at hQ
      unfold skA at R1
      rw [hs, if_pos rfl] at R1
      obtain ⟨o0, fd0, fd1, fd2, fd3, fd4, fd5, fd6, fd7, fd8, fd9, fd10, fd11, fd12, fd13, fd14, fd15, fd16, fd17, fd18, fd19, fd20, a0, a1, a2, a4, a5, a6, a7, a9, a10, a11, a14⟩ := V1.mm.q
      simp only [e141_0, e141_1, e141_4, e141_6, e141_9, e141_10, e141_12, e141_15, e141_18, e141_19, e141_25, e141_26, e141_29, e141_30, e141_31, e141_32, e141_35, e141_37, e141_40, e141_41, e141_42, e141_43, e141_45, e141_48, e141_51, e141_52, e141_53, e141_54, e141_56, e141_59, e141_62, e141_63, e141_65, e141_68, e141_69, e141_70, e141_71, e141_74, zpush, zopt_some, ↓reduceIte, List.getElem?_cons_succ, List.getElem?_cons_zero, beq_self_eq_true, true_and, and_true, Bool.true_and, Bool.and_true, Bool.false_and, Bool.and_false, nI_1, not_true_eq_false, not_false_eq_true, vp_narI, o0, ↓fd0, ↓fd1, ↓fd2, ↓fd3, ↓fd4, ↓fd5, ↓fd6, ↓fd7, ↓fd8, ↓fd9, ↓fd10, ↓fd11, ↓fd12, ↓fd13, ↓fd14, ↓fd15, ↓fd16, ↓fd17, ↓fd18, ↓fd19, ↓fd20, zb_t, n1]
      refine c_M_readsNumber V1.mm R1 hl ((V1.k 14 rfl).trans ef) (by omega) (fun h2 M2 V2 R2 N2 => ?_)
      have W2 := (V1.mono (T' := [16, 20]) rfl).to V2 rfl
      cases hv : decide (rdV f l (p + 1) = -6) with
      | true =>
        rw [hv] at hQ
        simp only [e141_0, e141_1, e141_4, e141_6, e141_9, e141_10, e141_12, e141_15, e141_18, e141_19, e141_22, e141_26, e141_29, e141_30, e141_31, e141_32, e141_35, e141_37, e141_40, e141_41, e141_42, e141_43, e141_45, e141_48, e141_51, e141_52, e141_53, e141_54, e141_56, e141_59, e141_62, e141_63, e141_65, e141_68, e141_69, e141_70, e141_71, e141_74, zpush, zopt_some, ↓reduceIte, List.getElem?_cons_succ, List.getElem?_cons_zero, beq_self_eq_true, true_and, and_true, Bool.true_and, Bool.and_true, Bool.false_and, Bool.and_false, nI_1, not_true_eq_false, not_false_eq_true, vp_narI, Bool.not_true, zb_f, z0_and]
        exact hQ h2 M2 W2 R2 (fun e => by cases e)
      | false =>
        rw [hv] at hQ
        simp only [e141_0, e141_1, e141_4, e141_6, e141_9, e141_10, e141_12, e141_15, e141_18, e141_19, e141_22, e141_25, e141_26, e141_29, e141_30, e141_32, e141_35, e141_37, e141_40, e141_41, e141_42, e141_43, e141_45, e141_48, e141_51, e141_52, e141_53, e141_54, e141_56, e141_59, e141_62, e141_63, e141_65, e141_68, e141_69, e141_70, e141_71, e141_74, zpush, zopt_some, ↓reduceIte, List.getElem?_cons_succ, List.getElem?_cons_zero, beq_self_eq_true, true_and, and_true, Bool.true_and, Bool.and_true, Bool.false_and, Bool.and_false, nI_1, not_true_eq_false, not_false_eq_true, vp_narI, Bool.not_false, zb_t, n1, z1_and]
        exact hQ h2 M2 W2 R2 (fun _ _ => N2 (of_decide_eq_false hv))
  · rw [if_neg c1] at hQ
    by_cases c2 : c = 112
    · rw [if_pos c2] at hQ
      have c1' : ¬ (112 : Int32) = 119 := by decide
      simp only [e141_0, e141_1, e141_4, e141_6, e141_9, e141_10, e141_12, e141_15, e141_18, e141_19, e141_22, e141_25, e141_26, e141_29, e141_30, e141_31, e141_32, e141_35, e141_37, e141_40, e141_41, e141_42, e141_43, e141_45, e141_51, e141_52, e141_53, e141_54, e141_56, e141_59, e141_62, e141_63, e141_65, e141_68, e141_69, e141_70, e141_71, e141_74, zpush, zopt_some, ↓reduceIte, List.getElem?_cons_succ, List.getElem?_cons_zero, beq_self_eq_true, true_and, and_true, Bool.true_and, Bool.and_true, Bool.false_and, Bool.and_false, nI_1, not_true_eq_false, not_false_eq_true, vp_narI, o0, ↓fd0, ↓fd1, ↓fd2, ↓fd3, ↓fd4, ↓fd5, ↓fd6, ↓fd7, ↓fd8, ↓fd9, ↓fd10, ↓fd11, ↓fd12, ↓fd13, ↓fd14, ↓fd15, ↓fd16, ↓fd17, ↓fd18, ↓fd19, ↓fd20, hc, c2, c1', not_false_eq_true]
      refine c_M_takes hM hR hl ef hp (fun h1 M1 V1 R1 => ?_)
      cases hs : skB f l p 64 with
      | false =>
        rw [hs, if_neg (by decide)] at hQ
        unfold skA at R1
        rw [hs, if_neg (by decide)] at R1
        simp only [e141_0, e141_1, e141_4, e141_6, e141_9, e141_10, e141_12, e141_15, e141_18, e141_19, e141_22, e141_25, e141_26, e141_29, e141_30, e141_31, e141_32, e141_35, e141_37, e141_40, e141_41, e141_42, e141_43, e141_45, e141_48, e141_51, e141_52, e141_54, e141_56, e141_59, e141_62, e141_63, e141_65, e141_68, e141_69, e141_70, e141_71, e141_74, zpush, zopt_some, ↓reduceIte, List.getElem?_cons_succ, List.getElem?_cons_zero, beq_self_eq_true, true_and, and_true, Bool.true_and, Bool.and_true, Bool.false_and, Bool.and_false, nI_1, not_true_eq_false, not_false_eq_true, vp_narI, zb_f, z0_and, not_true_eq_false]
        exact hQ h1 M1 (V1.mono rfl) R1 (fun e => by cases e)
      | true =>
        obtain ⟨s1, s2⟩ := skB_lt hs
        rw [hs, if_pos rfl] at hQ
        unfold skA at R1
        rw [hs, if_pos rfl] at R1
        obtain ⟨o0, fd0, fd1, fd2, fd3, fd4, fd5, fd6, fd7, fd8, fd9, fd10, fd11, fd12, fd13, fd14, fd15, fd16, fd17, fd18, fd19, fd20, a0, a1, a2, a4, a5, a6, a7, a9, a10, a11, a14⟩ := V1.mm.q
        have ef1 := (V1.k 14 rfl).trans ef
        simp only [e141_0, e141_1, e141_4, e141_6, e141_9, e141_10, e141_12, e141_15, e141_18, e141_19, e141_22, e141_25, e141_26, e141_29, e141_30, e141_31, e141_32, e141_35, e141_37, e141_40, e141_41, e141_42, e141_43, e141_45, e141_48, e141_51, e141_52, e141_53, e141_54, e141_56, e141_62, e141_63, e141_65, e141_68, e141_69, e141_70, e141_71, e141_74, zpush, zopt_some, ↓reduceIte, List.getElem?_cons_succ, List.getElem?_cons_zero, beq_self_eq_true, true_and, and_true, Bool.true_and, Bool.and_true, Bool.false_and, Bool.and_false, nI_1, not_true_eq_false, not_false_eq_true, vp_narI, o0, ↓fd0, ↓fd1, ↓fd2, ↓fd3, ↓fd4, ↓fd5, ↓fd6, ↓fd7, ↓fd8, ↓fd9, ↓fd10, ↓fd11, ↓fd12, ↓fd13, ↓fd14, ↓fd15, ↓fd16, ↓fd17, ↓fd18, ↓fd19, ↓fd20, zb_t, n1, not_false_eq_true]
        refine c_M_takes V1.mm R1 hl ef1 (by omega) (fun h2 M2 V2 R2 => ?_)
        obtain ⟨o0, fd0, fd1, fd2, fd3, fd4, fd5, fd6, fd7, fd8, fd9, fd10, fd11, fd12, fd13, fd14, fd15, fd16, fd17, fd18, fd19, fd20, a0, a1, a2, a4, a5, a6, a7, a9, a10, a11, a14⟩ := V2.mm.q
        have W2 := (V1.mono (T' := [16, 20]) rfl).to V2 rfl
        cases ht : skB f l (p + 1) 45 with
        | true =>
          rw [ht, if_pos rfl] at hQ
          unfold skA at R2
          rw [ht, if_pos rfl] at R2
          simp only [e141_0, e141_1, e141_4, e141_6, e141_9, e141_10, e141_12, e141_15, e141_18, e141_19, e141_22, e141_25, e141_26, e141_29, e141_30, e141_31, e141_32, e141_35, e141_37, e141_40, e141_41, e141_42, e141_43, e141_45, e141_48, e141_51, e141_52, e141_53, e141_54, e141_56, e141_59, e141_62, e141_63, e141_68, e141_69, e141_70, e141_71, e141_74, zpush, zopt_some, ↓reduceIte, List.getElem?_cons_succ, List.getElem?_cons_zero, beq_self_eq_true, true_and, and_true, Bool.true_and, Bool.and_true, Bool.false_and, Bool.and_false, nI_1, not_true_eq_false, not_false_eq_true, vp_narI, o0, ↓fd0, ↓fd1, ↓fd2, ↓fd3, ↓fd4, ↓fd5, ↓fd6, ↓fd7, ↓fd8, ↓fd9, ↓fd10, ↓fd11, ↓fd12, ↓fd13, ↓fd14, ↓fd15, ↓fd16, ↓fd17, ↓fd18, ↓fd19, ↓fd20, zb_t, n1]
          rw [e141_65]
          refine V2.mm.p20 (fun h3 M3 V3 E3 => ?_)
          simp only [e141_0, e141_1, e141_4, e141_6, e141_9, e141_10, e141_12, e141_15, e141_18, e141_19, e141_22, e141_25, e141_26, e141_29, e141_30, e141_31, e141_32, e141_35, e141_37, e141_40, e141_41, e141_42, e141_43, e141_45, e141_48, e141_51, e141_52, e141_53, e141_54, e141_56, e141_59, e141_62, e141_63, e141_65, e141_68, e141_69, e141_70, e141_71, e141_74, zpush, zopt_some, ↓reduceIte, List.getElem?_cons_succ, List.getElem?_cons_zero, beq_self_eq_true, true_and, and_true, Bool.true_and, Bool.and_true, Bool.false_and, Bool.and_false, nI_1, not_true_eq_false, not_false_eq_true, vp_narI, z1_and]
          exact hQ h3 M3 (W2.to V3 rfl) ⟨(congrFun (V3.k 15 rfl) 0).trans R2.1, (congrFun (V3.k 16 rfl) 0).trans R2.2⟩ (fun _ _ => E3)
        | false =>
          rw [ht, if_neg (by decide)] at hQ
          unfold skA at R2
          rw [ht, if_neg (by decide)] at R2
          simp only [e141_0, e141_1, e141_4, e141_6, e141_9, e141_10, e141_12, e141_15, e141_18, e141_19, e141_22, e141_25, e141_26, e141_29, e141_30, e141_31, e141_32, e141_35, e141_37, e141_40, e141_41, e141_42, e141_43, e141_45, e141_48, e141_51, e141_52, e141_53, e141_54, e141_56, e141_59, e141_62, e141_63, e141_65, e141_68, e141_69, e141_70, e141_71, zpush, zopt_some, ↓reduceIte, List.getElem?_cons_succ, List.getElem?_cons_zero, beq_self_eq_true, true_and, and_true, Bool.true_and, Bool.and_true, Bool.false_and, Bool.and_false, nI_1, not_true_eq_false, not_false_eq_true, vp_narI, o0, ↓fd0, ↓fd1, ↓fd2, ↓fd3, ↓fd4, ↓fd5, ↓fd6, ↓fd7, ↓fd8, ↓fd9, ↓fd10, ↓fd11, ↓fd12, ↓fd13, ↓fd14, ↓fd15, ↓fd16, ↓fd17, ↓fd18, ↓fd19, ↓fd20, zb_f]
          refine c_M_readsNumber V2.mm R2 hl ((V2.k 14 rfl).trans ef1) (by omega) (fun h3 M3 V3 R3 N3 => ?_)
          simp only [e141_0, e141_1, e141_4, e141_6, e141_9, e141_10, e141_12, e141_15, e141_18, e141_19, e141_22, e141_25, e141_26, e141_29, e141_30, e141_31, e141_32, e141_35, e141_37, e141_40, e141_41, e141_42, e141_43, e141_45, e141_48, e141_51, e141_52, e141_53, e141_54, e141_56, e141_59, e141_62, e141_63, e141_65, e141_68, e141_69, e141_70, e141_71, e141_74, zpush, zopt_some, ↓reduceIte, List.getElem?_cons_succ, List.getElem?_cons_zero, beq_self_eq_true, true_and, and_true, Bool.true_and, Bool.and_true, Bool.false_and, Bool.and_false, nI_1, not_true_eq_false, not_false_eq_true, vp_narI, zb_and1]
          refine hQ h3 M3 (W2.to V3 rfl) R3 (fun e _ => N3 ?_)
          simpa using e
    · rw [if_neg c2] at hQ
      simp only [e141_0, e141_1, e141_4, e141_6, e141_10, e141_12, e141_15, e141_18, e141_19, e141_22, e141_25, e141_26, e141_29, e141_30, e141_31, e141_32, e141_35, e141_37, e141_40, e141_41, e141_43, e141_45, e141_48, e141_51, e141_52, e141_53, e141_54, e141_56, e141_59, e141_62, e141_63, e141_65, e141_68, e141_69, e141_70, e141_71, e141_74, zpush, zopt_some, ↓reduceIte, List.getElem?_cons_succ, List.getElem?_cons_zero, beq_self_eq_true, true_and, and_true, Bool.true_and, Bool.and_true, Bool.false_and, Bool.and_false, nI_1, not_true_eq_false, not_false_eq_true, vp_narI, o0, ↓fd0, ↓fd1, ↓fd2, ↓fd3, ↓fd4, ↓fd5, ↓fd6, ↓fd7, ↓fd8, ↓fd9, ↓fd10, ↓fd11, ↓fd12, ↓fd13, ↓fd14, ↓fd15, ↓fd16, ↓fd17, ↓fd18, ↓fd19, ↓fd20, hc, c1, c2, not_false_eq_true, z1_and]
      exact hQ h M hM.rf hR (fun _ e => by rcases e with e | e; exact absurd e c1; exact absurd e c2)
theorem c_M_readsOrder (hM : zMM h M) (hR : zRd M l p) (hl : l ≤ 60) (ef : M 14 = f) (hp : p ≤ l) (hQ : ∀ h' M', zMv [16, 17, 18, 19, 20] h M h' M' → zRd M' l (rdO f l p).2.1 → ((rdO f l p).1 = true → isO (f p) = true ∧ M' 17 0 = f p ∧ M' 18 0 = rdV f l (p + 1) ∧ (f p = 119 ∨ f p = 112 → M' 19 0 = (rdO f l p).2.2)) → Q (some (.int (zb (rdO f l p).1))) (h', z)) :
    Ev 142 0 [.ref 108, zU] [] (h, z) Q := by
  obtain ⟨o0, fd0, fd1, fd2, fd3, fd4, fd5, fd6, fd7, fd8, fd9, fd10, fd11, fd12, fd13, fd14, fd15, fd16, fd17, fd18, fd19, fd20, a0, a1, a2, a4, a5, a6, a7, a9, a10, a11, a14⟩ := hM.q
  obtain ⟨r1, r2⟩ := id hR
  rw [ef] at a14
  have n1 : ¬ (1 : Int32) = 0 := by decide
  unfold rdO at hQ
  by_cases h1 : p < l
  · have e1 : ¬ nI p = nI l := fun e => by have := (nI_eq (by omega) (by omega)).mp e; omega
    have e2 : zinb (nI p) 60 = true := zinb_nI (by omega) (by decide)
    have e3 : (nI p).toNatClampNeg = p := nI_clamp (by omega)
    by_cases h2 : isO (f p) = true
    · rw [if_pos ⟨h1, h2⟩] at hQ
      simp only [e142_0, e142_1, e142_4, e142_5, e142_8, e142_11, e142_12, e142_15, e142_16, e142_19, e142_20, e142_23, e142_26, e142_27, e142_28, e142_29, e142_30, e142_33, e142_34, e142_37, e142_41, e142_42, e142_43, e142_46, e142_47, e142_48, e142_51, e142_52, e142_55, e142_58, e142_59, e142_60, e142_61, e142_62, e142_65, e142_68, e142_69, e142_72, e142_73, e142_74, e142_75, e142_78, e142_81, e142_82, zpush, zopt_some, ↓reduceIte, List.getElem?_cons_succ, List.getElem?_cons_zero, beq_self_eq_true, true_and, and_true, Bool.true_and, Bool.and_true, Bool.false_and, Bool.and_false, nI_1, not_true_eq_false, not_false_eq_true, vp_narI, o0, ↓fd0, ↓fd1, ↓fd2, ↓fd3, ↓fd4, ↓fd5, ↓fd6, ↓fd7, ↓fd8, ↓fd9, ↓fd10, ↓fd11, ↓fd12, ↓fd13, ↓fd14, ↓fd15, ↓fd16, ↓fd17, ↓fd18, ↓fd19, ↓fd20, ↓a14, r1, r2, e1, e2, e3, c_M_isOrder, h2, zb_t, n1, not_false_eq_true]
      rw [e142_38]
      refine hM.p17 (fun h3 M3 V3 E3 => ?_)
      obtain ⟨o0, fd0, fd1, fd2, fd3, fd4, fd5, fd6, fd7, fd8, fd9, fd10, fd11, fd12, fd13, fd14, fd15, fd16, fd17, fd18, fd19, fd20, a0, a1, a2, a4, a5, a6, a7, a9, a10, a11, a14⟩ := V3.mm.q
      have r2' : M3 16 0 = nI p := (congrFun (V3.k 16 rfl) 0).trans r2
      simp only [e142_0, e142_1, e142_4, e142_5, e142_8, e142_11, e142_12, e142_15, e142_16, e142_19, e142_20, e142_23, e142_26, e142_27, e142_28, e142_29, e142_30, e142_33, e142_34, e142_37, e142_38, e142_41, e142_42, e142_43, e142_46, e142_47, e142_51, e142_52, e142_55, e142_58, e142_59, e142_60, e142_61, e142_62, e142_65, e142_68, e142_69, e142_72, e142_73, e142_74, e142_75, e142_78, e142_81, e142_82, zpush, zopt_some, ↓reduceIte, List.getElem?_cons_succ, List.getElem?_cons_zero, beq_self_eq_true, true_and, and_true, Bool.true_and, Bool.and_true, Bool.false_and, Bool.and_false, nI_1, not_true_eq_false, not_false_eq_true, vp_narI, o0, ↓fd0, ↓fd1, ↓fd2, ↓fd3, ↓fd4, ↓fd5, ↓fd6, ↓fd7, ↓fd8, ↓fd9, ↓fd10, ↓fd11, ↓fd12, ↓fd13, ↓fd14, ↓fd15, ↓fd16, ↓fd17, ↓fd18, ↓fd19, ↓fd20, r2']
      rw [e142_48]
      refine V3.mm.p16 (fun h4 M4 V4 E4 => ?_)
      have W4 := (V3.mono (T' := [16, 17, 18, 19, 20]) rfl).to V4 rfl
      have R4 : zRd M4 l (p + 1) := ⟨by rw [V4.k 15 rfl, V3.k 15 rfl]; exact r1, E4⟩
      have O4 : M4 17 0 = f p := by rw [V4.k 17 rfl]; exact E3
      obtain ⟨o0, fd0, fd1, fd2, fd3, fd4, fd5, fd6, fd7, fd8, fd9, fd10, fd11, fd12, fd13, fd14, fd15, fd16, fd17, fd18, fd19, fd20, a0, a1, a2, a4, a5, a6, a7, a9, a10, a11, a14⟩ := V4.mm.q
      simp only [e142_0, e142_1, e142_4, e142_5, e142_8, e142_11, e142_12, e142_15, e142_16, e142_19, e142_20, e142_23, e142_26, e142_27, e142_28, e142_29, e142_30, e142_33, e142_34, e142_37, e142_38, e142_41, e142_42, e142_43, e142_46, e142_47, e142_48, e142_51, e142_52, e142_58, e142_59, e142_60, e142_61, e142_62, e142_65, e142_68, e142_69, e142_72, e142_73, e142_74, e142_75, e142_78, e142_81, e142_82, zpush, zopt_some, ↓reduceIte, List.getElem?_cons_succ, List.getElem?_cons_zero, beq_self_eq_true, true_and, and_true, Bool.true_and, Bool.and_true, Bool.false_and, Bool.and_false, nI_1, not_true_eq_false, not_false_eq_true, vp_narI, o0, ↓fd0, ↓fd1, ↓fd2, ↓fd3, ↓fd4, ↓fd5, ↓fd6, ↓fd7, ↓fd8, ↓fd9, ↓fd10, ↓fd11, ↓fd12, ↓fd13, ↓fd14, ↓fd15, ↓fd16, ↓fd17, ↓fd18, ↓fd19, ↓fd20]
      refine c_M_readsNumber (f := f) V4.mm R4 hl (by rw [V4.k 14 rfl, V3.k 14 rfl]; exact ef) (by omega) (fun h5 M5 V5 R5 N5 => ?_)
      have W5 := W4.to V5 rfl
      have O5 : M5 17 0 = f p := by rw [V5.k 17 rfl]; exact O4
      cases hv : decide (rdV f l (p + 1) = -6) with
      | true =>
        rw [if_pos (of_decide_eq_true hv)] at hQ
        simp only [e142_0, e142_1, e142_4, e142_5, e142_8, e142_11, e142_12, e142_15, e142_16, e142_19, e142_20, e142_23, e142_26, e142_27, e142_28, e142_29, e142_30, e142_33, e142_34, e142_37, e142_38, e142_41, e142_42, e142_43, e142_46, e142_47, e142_48, e142_51, e142_52, e142_55, e142_58, e142_59, e142_61, e142_62, e142_65, e142_68, e142_69, e142_72, e142_73, e142_74, e142_75, e142_78, e142_81, e142_82, zpush, zopt_some, ↓reduceIte, List.getElem?_cons_succ, List.getElem?_cons_zero, beq_self_eq_true, true_and, and_true, Bool.true_and, Bool.and_true, Bool.false_and, Bool.and_false, nI_1, not_true_eq_false, not_false_eq_true, vp_narI, Bool.not_true, zb_f, z0_and, not_true_eq_false]
        exact hQ h5 M5 W5 R5 (fun e => by cases e)
      | false =>
        have hv' := of_decide_eq_false hv
        have N5 := N5 hv'
        rw [if_neg hv'] at hQ
        have hle := rdA_le (f := f) (l := l) (p := p + 1) (by omega)
        obtain ⟨o0, fd0, fd1, fd2, fd3, fd4, fd5, fd6, fd7, fd8, fd9, fd10, fd11, fd12, fd13, fd14, fd15, fd16, fd17, fd18, fd19, fd20, a0, a1, a2, a4, a5, a6, a7, a9, a10, a11, a14⟩ := V5.mm.q
        simp only [e142_0, e142_1, e142_4, e142_5, e142_8, e142_11, e142_12, e142_15, e142_16, e142_19, e142_20, e142_23, e142_26, e142_27, e142_28, e142_29, e142_30, e142_33, e142_34, e142_37, e142_38, e142_41, e142_42, e142_43, e142_46, e142_47, e142_48, e142_51, e142_52, e142_55, e142_58, e142_59, e142_60, e142_61, e142_62, e142_68, e142_69, e142_72, e142_73, e142_74, e142_75, e142_78, e142_81, e142_82, zpush, zopt_some, ↓reduceIte, List.getElem?_cons_succ, List.getElem?_cons_zero, beq_self_eq_true, true_and, and_true, Bool.true_and, Bool.and_true, Bool.false_and, Bool.and_false, nI_1, not_true_eq_false, not_false_eq_true, vp_narI, o0, ↓fd0, ↓fd1, ↓fd2, ↓fd3, ↓fd4, ↓fd5, ↓fd6, ↓fd7, ↓fd8, ↓fd9, ↓fd10, ↓fd11, ↓fd12, ↓fd13, ↓fd14, ↓fd15, ↓fd16, ↓fd17, ↓fd18, ↓fd19, ↓fd20, Bool.not_false, zb_t, n1, N5, not_false_eq_true]
        rw [e142_65]
        refine V5.mm.p18 (fun h6 M6 V6 E6 => ?_)
        have W6 := W5.to V6 rfl
        have R6 : zRd M6 l (rdA f l (p + 1)) := ⟨(congrFun (V6.k 15 rfl) 0).trans R5.1, (congrFun (V6.k 16 rfl) 0).trans R5.2⟩
        have O6 : M6 17 0 = f p := by rw [V6.k 17 rfl]; exact O5
        obtain ⟨o0, fd0, fd1, fd2, fd3, fd4, fd5, fd6, fd7, fd8, fd9, fd10, fd11, fd12, fd13, fd14, fd15, fd16, fd17, fd18, fd19, fd20, a0, a1, a2, a4, a5, a6, a7, a9, a10, a11, a14⟩ := V6.mm.q
        simp only [e142_0, e142_1, e142_4, e142_5, e142_8, e142_11, e142_12, e142_15, e142_16, e142_19, e142_20, e142_23, e142_26, e142_27, e142_28, e142_29, e142_30, e142_33, e142_34, e142_37, e142_38, e142_41, e142_42, e142_43, e142_46, e142_47, e142_48, e142_51, e142_52, e142_55, e142_58, e142_59, e142_60, e142_61, e142_62, e142_65, e142_68, e142_69, e142_73, e142_74, e142_75, e142_78, e142_81, e142_82, zpush, zopt_some, ↓reduceIte, List.getElem?_cons_succ, List.getElem?_cons_zero, beq_self_eq_true, true_and, and_true, Bool.true_and, Bool.and_true, Bool.false_and, Bool.and_false, nI_1, not_true_eq_false, not_false_eq_true, vp_narI, o0, ↓fd0, ↓fd1, ↓fd2, ↓fd3, ↓fd4, ↓fd5, ↓fd6, ↓fd7, ↓fd8, ↓fd9, ↓fd10, ↓fd11, ↓fd12, ↓fd13, ↓fd14, ↓fd15, ↓fd16, ↓fd17, ↓fd18, ↓fd19, ↓fd20]
        refine c_M_readsSecond (f := f) (c := f p) V6.mm R6 hl (by rw [W6.k 14 rfl]; exact ef) hle.2 O6 (fun h7 M7 V7 R7 N7 => ?_)
        have W7 := W6.to V7 rfl
        obtain ⟨o0, fd0, fd1, fd2, fd3, fd4, fd5, fd6, fd7, fd8, fd9, fd10, fd11, fd12, fd13, fd14, fd15, fd16, fd17, fd18, fd19, fd20, a0, a1, a2, a4, a5, a6, a7, a9, a10, a11, a14⟩ := V7.mm.q
        simp only [e142_0, e142_1, e142_4, e142_5, e142_8, e142_11, e142_12, e142_15, e142_16, e142_19, e142_20, e142_23, e142_26, e142_27, e142_28, e142_29, e142_30, e142_33, e142_34, e142_37, e142_38, e142_41, e142_42, e142_43, e142_46, e142_47, e142_48, e142_51, e142_52, e142_55, e142_58, e142_59, e142_60, e142_61, e142_62, e142_65, e142_68, e142_69, e142_72, e142_73, e142_74, e142_75, e142_81, e142_82, zpush, zopt_some, ↓reduceIte, List.getElem?_cons_succ, List.getElem?_cons_zero, beq_self_eq_true, true_and, and_true, Bool.true_and, Bool.and_true, Bool.false_and, Bool.and_false, nI_1, not_true_eq_false, not_false_eq_true, vp_narI, o0, ↓fd0, ↓fd1, ↓fd2, ↓fd3, ↓fd4, ↓fd5, ↓fd6, ↓fd7, ↓fd8, ↓fd9, ↓fd10, ↓fd11, ↓fd12, ↓fd13, ↓fd14, ↓fd15, ↓fd16, ↓fd17, ↓fd18, ↓fd19, ↓fd20]
        rw [e142_78]
        refine V7.mm.p19 (fun h8 M8 V8 E8 => ?_)
        simp only [e142_0, e142_1, e142_4, e142_5, e142_8, e142_11, e142_12, e142_15, e142_16, e142_19, e142_20, e142_23, e142_26, e142_27, e142_28, e142_29, e142_30, e142_33, e142_34, e142_37, e142_38, e142_41, e142_42, e142_43, e142_46, e142_47, e142_48, e142_51, e142_52, e142_55, e142_58, e142_59, e142_60, e142_61, e142_62, e142_65, e142_68, e142_69, e142_72, e142_73, e142_74, e142_75, e142_78, e142_81, e142_82, zpush, zopt_some, ↓reduceIte, List.getElem?_cons_succ, List.getElem?_cons_zero, beq_self_eq_true, true_and, and_true, Bool.true_and, Bool.and_true, Bool.false_and, Bool.and_false, nI_1, not_true_eq_false, not_false_eq_true, vp_narI, zb_and1]
        refine hQ h8 M8 (W7.to V8 rfl) ⟨(congrFun (V8.k 15 rfl) 0).trans R7.1, (congrFun (V8.k 16 rfl) 0).trans R7.2⟩ (fun e => ⟨h2, by rw [V8.k 17 rfl, V7.k 17 rfl]; exact O6, by rw [V8.k 18 rfl, V7.k 18 rfl]; exact E6, fun e2 => by rw [E8]; exact N7 e e2⟩)
    · rw [if_neg (fun h => h2 h.2)] at hQ
      rw [Bool.not_eq_true] at h2
      simp only [e142_0, e142_1, e142_4, e142_5, e142_8, e142_11, e142_12, e142_15, e142_16, e142_19, e142_20, e142_23, e142_26, e142_27, e142_29, e142_30, e142_33, e142_34, e142_37, e142_38, e142_41, e142_42, e142_43, e142_46, e142_47, e142_48, e142_51, e142_52, e142_55, e142_58, e142_59, e142_60, e142_61, e142_62, e142_65, e142_68, e142_69, e142_72, e142_73, e142_74, e142_75, e142_78, e142_81, e142_82, zpush, zopt_some, ↓reduceIte, List.getElem?_cons_succ, List.getElem?_cons_zero, beq_self_eq_true, true_and, and_true, Bool.true_and, Bool.and_true, Bool.false_and, Bool.and_false, nI_1, not_true_eq_false, not_false_eq_true, vp_narI, o0, ↓fd0, ↓fd1, ↓fd2, ↓fd3, ↓fd4, ↓fd5, ↓fd6, ↓fd7, ↓fd8, ↓fd9, ↓fd10, ↓fd11, ↓fd12, ↓fd13, ↓fd14, ↓fd15, ↓fd16, ↓fd17, ↓fd18, ↓fd19, ↓fd20, ↓a14, r1, r2, e1, e2, e3, c_M_isOrder, h2, zb_f, z0_and, not_true_eq_false]
      exact hQ h M hM.rf hR (fun e => by cases e)
  · have hpl : p = l := by omega
    subst hpl
    rw [if_neg (fun h => h1 h.1)] at hQ
    simp only [e142_0, e142_1, e142_4, e142_5, e142_8, e142_12, e142_15, e142_16, e142_19, e142_20, e142_23, e142_26, e142_27, e142_29, e142_30, e142_33, e142_34, e142_37, e142_38, e142_41, e142_42, e142_43, e142_46, e142_47, e142_48, e142_51, e142_52, e142_55, e142_58, e142_59, e142_60, e142_61, e142_62, e142_65, e142_68, e142_69, e142_72, e142_73, e142_74, e142_75, e142_78, e142_81, e142_82, zpush, zopt_some, ↓reduceIte, List.getElem?_cons_succ, List.getElem?_cons_zero, beq_self_eq_true, true_and, and_true, Bool.true_and, Bool.and_true, Bool.false_and, Bool.and_false, nI_1, not_true_eq_false, not_false_eq_true, vp_narI, o0, ↓fd0, ↓fd1, ↓fd2, ↓fd3, ↓fd4, ↓fd5, ↓fd6, ↓fd7, ↓fd8, ↓fd9, ↓fd10, ↓fd11, ↓fd12, ↓fd13, ↓fd14, ↓fd15, ↓fd16, ↓fd17, ↓fd18, ↓fd19, ↓fd20, r1, r2, z0_and]
    exact hQ h M hM.rf hR (fun e => by cases e)
end ZC
end
