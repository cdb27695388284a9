/-! reading a number -/
section
set_option maxRecDepth 100000
def rdV (f : Nat → Int32) (l p : Nat) : Int32 := if skB f l p 48 = true then 0 else if (numL f l 4 0 p).2 = p then -6 else (numL f l 4 0 p).1
def rdA (f : Nat → Int32) (l p : Nat) : Nat := if skB f l p 48 = true then p + 1 else (numL f l 4 0 p).2
theorem digB_ex {f : Nat → Int32} {l p : Nat} (h : digB f l p = true) : p < l ∧ ∃ d, d < 10 ∧ f p = nI (48 + d) ∧ f p - 48 = nI d := by
  unfold digB at h
  simp only [Bool.and_eq_true, decide_eq_true_eq] at h
  obtain ⟨h1, h2, h3⟩ := h
  refine ⟨h1, ?_⟩
  have hz : zinb (f p) 58 = true := by
    rw [← Bool.not_eq_false]
    intro h4
    rcases (zinb_no (by decide)).mp h4 with h5 | h5
    · exact Int32.not_lt.mpr (Int32.le_trans (by decide) h2) h5
    · exact Int32.not_lt.mpr h3 (Int32.lt_of_lt_of_le (by decide) h5)
  obtain ⟨c, hc, e⟩ := zinb_ex hz (by decide)
  have h48 : 48 ≤ c := by
    rcases Nat.lt_or_ge c 48 with h | h
    · rw [e] at h2
      exact absurd h2 (Int32.not_le.mpr (nI_lt (b := 48) h (by decide)))
    · exact h
  refine ⟨c - 48, by omega, by rw [e, show 48 + (c - 48) = c by omega], ?_⟩
  rw [e]
  have : ∀ d, d < 10 → nI (48 + d) - 48 = nI d := by decide +kernel
  have := this (c - 48) (by omega)
  rw [show 48 + (c - 48) = c by omega] at this
  exact this
theorem numL_N (f : Nat → Int32) (l : Nat) : ∀ k N p, ∃ N', (numL f l k (nI N) p).1 = nI N' ∧ N' < (N + 1) * 10 ^ k
  | 0, N, p => ⟨N, rfl, by omega⟩
  | k + 1, N, p => by
    unfold numL
    have h10 : (N + 1) * 10 ^ (k + 1) = ((N + 1) * 10) * 10 ^ k := by rw [Nat.pow_succ, Nat.mul_comm (10 ^ k) 10, Nat.mul_assoc]
    split
    next hd =>
      obtain ⟨-, d, hd, -, e⟩ := digB_ex hd
      have e2 : nI N * 10 + (f p - 48) = nI (N * 10 + d) := by
        rw [e, show (10 : Int32) = nI 10 from rfl, pk_mul, nI_add]
      rw [e2, h10]
      obtain ⟨N', h1, h2⟩ := numL_N f l k (N * 10 + d) (p + 1)
      exact ⟨N', h1, Nat.lt_of_lt_of_le h2 (Nat.mul_le_mul_right _ (by omega))⟩
    next =>
      rw [h10]
      have hp : 0 < 10 ^ k := Nat.pow_pos (by decide)
      have := Nat.mul_le_mul_left ((N + 1) * 10) hp
      exact ⟨N, rfl, by omega⟩
section ZC
variable {h : List zC} {z : Nat × (Nat × (Nat → Int32))} {Q : Option Value → zX → Prop} {l p : Nat} {kd fi se : Int32} {f : Nat → Int32}
theorem l_P_readNumber (hl : l ≤ 60) {p0 : Nat} (hQ : ∀ h' : List zC, zFr (fun j => j = 80) h h' → zPx h' l (numL f l 4 0 p0).2 kd fi se f → Q (some (.int (if (numL f l 4 0 p0).2 = p0 then -6 else (numL f l 4 0 p0).1))) (h', z)) :
    ∀ (k d : Nat) (n : Int32) (p : Nat) (h' : List zC), d + k = 4 → p ≤ l → p = p0 + d → zFr (fun j => j = 80) h h' → zPx h' l p kd fi se f → numL f l 4 0 p0 = numL f l k n p →
    Ev 20 15 [.ref 80, .int n, .int (nI d)] [] (h', z) Q := by
  have fin : ∀ (d : Nat) (n : Int32) (p : Nat) (h' : List zC), d ≤ 4 → p = p0 + d → zFr (fun j => j = 80) h h' → zPx h' l p kd fi se f → numL f l 4 0 p0 = (n, p) → Ev 20 93 [.ref 80, .int n, .int (nI d)] [] (h', z) Q := by
    intro d n p h' hd hp hF hP he
    have hQ := hQ h' hF (by rw [he]; exact hP)
    rw [he] at hQ
    by_cases h0 : d = 0
    · subst h0
      rw [if_pos (by show p = p0; omega)] at hQ
      simp only [e20_0, e20_1, e20_3, e20_6, e20_9, e20_10, e20_11, e20_12, e20_13, e20_14, e20_16, e20_17, e20_20, e20_21, e20_24, e20_25, e20_28, e20_31, e20_32, e20_35, e20_36, e20_39, e20_40, e20_42, e20_45, e20_46, e20_49, e20_50, e20_53, e20_54, e20_56, e20_59, e20_60, e20_62, e20_63, e20_64, e20_67, e20_68, e20_71, e20_72, e20_74, e20_75, e20_76, e20_77, e20_80, e20_81, e20_82, e20_85, e20_86, e20_87, e20_90, e20_93, e20_94, e20_97, e20_99, e20_102, e20_103, zgF, zgA, zgR, zisO, zpush, zopt_some, ↓reduceIte, List.getElem?_cons_succ, List.getElem?_cons_zero, beq_self_eq_true, true_and, and_true, Bool.true_and, Bool.and_true, Bool.false_and, Bool.and_false, nI_1, not_true_eq_false, not_false_eq_true, vp_narI, (show nI 0 = (0 : Int32) from rfl)]
      exact hQ
    · rw [if_neg (by show ¬ p = p0; omega)] at hQ
      have n0 : ¬ nI d = 0 := fun e => h0 ((nI_eq (a := d) (b := 0) (by omega) (by omega)).mp e)
      simp only [e20_0, e20_1, e20_3, e20_6, e20_9, e20_10, e20_11, e20_12, e20_13, e20_14, e20_16, e20_17, e20_20, e20_21, e20_24, e20_25, e20_28, e20_31, e20_32, e20_35, e20_36, e20_39, e20_40, e20_42, e20_45, e20_46, e20_49, e20_50, e20_53, e20_54, e20_56, e20_59, e20_60, e20_62, e20_63, e20_64, e20_67, e20_68, e20_71, e20_72, e20_74, e20_75, e20_76, e20_77, e20_80, e20_81, e20_82, e20_85, e20_86, e20_87, e20_90, e20_93, e20_94, e20_97, e20_99, e20_102, e20_103, zgF, zgA, zgR, zisO, zpush, zopt_some, ↓reduceIte, List.getElem?_cons_succ, List.getElem?_cons_zero, beq_self_eq_true, true_and, and_true, Bool.true_and, Bool.and_true, Bool.false_and, Bool.and_false, nI_1, not_true_eq_false, not_false_eq_true, vp_narI, n0]
      exact hQ
  intro k
  induction k with
  | zero =>
    intro d n p h' hd hpl hp hF hP he
    have e0 : (4 : Int32) ≤ nI d := by rw [show d = 4 by omega]; decide
    rw [e20_15]
    simp only [e20_0, e20_1, e20_3, e20_6, e20_9, e20_10, e20_11, e20_12, e20_13, e20_14, e20_16, e20_17, e20_20, e20_21, e20_24, e20_25, e20_28, e20_31, e20_32, e20_35, e20_36, e20_39, e20_40, e20_42, e20_45, e20_46, e20_49, e20_50, e20_53, e20_54, e20_56, e20_59, e20_60, e20_62, e20_63, e20_64, e20_67, e20_68, e20_71, e20_72, e20_74, e20_75, e20_76, e20_77, e20_80, e20_81, e20_82, e20_85, e20_86, e20_87, e20_90, e20_94, e20_97, e20_99, e20_102, e20_103, zgF, zgA, zgR, zisO, zpush, zopt_some, ↓reduceIte, List.getElem?_cons_succ, List.getElem?_cons_zero, beq_self_eq_true, true_and, and_true, Bool.true_and, Bool.and_true, Bool.false_and, Bool.and_false, nI_1, not_true_eq_false, not_false_eq_true, vp_narI, e0]
    exact fin d n p h' (by omega) hp hF hP he
  | succ k ih =>
    intro d n p h' hd hpl hp hF hP he
    obtain ⟨x0, x1⟩ := id hP
    have e0 : ¬ (4 : Int32) ≤ nI d := nI_ge (b := 4) (by omega) (by omega)
    have fin := fin d n p h' (by omega) hp hF hP
    rw [show numL f l (k + 1) n p = (if digB f l p = true then numL f l k (n * 10 + (f p - 48)) (p + 1) else (n, p)) from rfl] at he
    rw [e20_15]
    by_cases h2 : p < l
    · have a1 : ¬ nI l ≤ nI p := nI_ge h2 (by omega)
      have e1 : zinb (nI p) 60 = true := zinb_nI (by omega) (by decide)
      have e2 : (nI p).toNatClampNeg = p := nI_clamp (by omega)
      by_cases h3 : 48 ≤ f p
      · have b3 : ¬ f p < 48 := Int32.not_lt.mpr h3
        by_cases h4 : f p ≤ 57
        · have b4 : ¬ (57 : Int32) < f p := Int32.not_lt.mpr h4
          rw [if_pos (by unfold digB; simp [h2, h3, h4])] at he
          simp only [e20_0, e20_1, e20_3, e20_6, e20_9, e20_10, e20_11, e20_12, e20_13, e20_14, e20_16, e20_17, e20_20, e20_21, e20_24, e20_25, e20_28, e20_31, e20_32, e20_35, e20_36, e20_39, e20_40, e20_42, e20_45, e20_46, e20_49, e20_50, e20_53, e20_54, e20_56, e20_59, e20_60, e20_62, e20_63, e20_64, e20_67, e20_68, e20_71, e20_72, e20_74, e20_75, e20_76, e20_77, e20_80, e20_81, e20_82, e20_85, e20_86, e20_87, e20_90, e20_94, e20_97, e20_99, e20_102, e20_103, zgF, zgA, zgR, zisO, zpush, zopt_some, ↓reduceIte, List.getElem?_cons_succ, List.getElem?_cons_zero, beq_self_eq_true, true_and, and_true, Bool.true_and, Bool.and_true, Bool.false_and, Bool.and_false, nI_1, not_true_eq_false, not_false_eq_true, vp_narI, e0, x0, x1, a1, e1, e2, b3, b4, zpF, List.length_cons, List.length_nil, Nat.reduceAdd, Nat.reduceLT, and_self, List.set_cons_succ, List.set_cons_zero]
          exact ih (d + 1) _ (p + 1) _ (by omega) (by omega) (by omega) (hF.tr (zFr.set rfl)) (hP.at (p + 1)) he
        · have b4 : (57 : Int32) < f p := Int32.not_le.mp h4
          rw [if_neg (by unfold digB; simp [h4])] at he
          simp only [e20_0, e20_1, e20_3, e20_6, e20_9, e20_10, e20_11, e20_12, e20_13, e20_14, e20_16, e20_17, e20_20, e20_21, e20_24, e20_25, e20_28, e20_31, e20_32, e20_35, e20_36, e20_39, e20_40, e20_42, e20_45, e20_46, e20_49, e20_50, e20_53, e20_54, e20_56, e20_59, e20_60, e20_62, e20_63, e20_64, e20_67, e20_68, e20_71, e20_72, e20_74, e20_75, e20_76, e20_77, e20_80, e20_81, e20_82, e20_85, e20_86, e20_87, e20_90, e20_94, e20_97, e20_99, e20_102, e20_103, zgF, zgA, zgR, zisO, zpush, zopt_some, ↓reduceIte, List.getElem?_cons_succ, List.getElem?_cons_zero, beq_self_eq_true, true_and, and_true, Bool.true_and, Bool.and_true, Bool.false_and, Bool.and_false, nI_1, not_true_eq_false, not_false_eq_true, vp_narI, e0, x0, x1, a1, e1, e2, b3, b4]
          exact fin he
      · have b3 : f p < 48 := Int32.not_le.mp h3
        rw [if_neg (by unfold digB; simp [h3])] at he
        simp only [e20_0, e20_1, e20_3, e20_6, e20_9, e20_10, e20_11, e20_12, e20_13, e20_14, e20_16, e20_17, e20_20, e20_21, e20_24, e20_25, e20_28, e20_31, e20_32, e20_35, e20_36, e20_39, e20_40, e20_42, e20_45, e20_46, e20_49, e20_50, e20_53, e20_54, e20_56, e20_59, e20_60, e20_62, e20_63, e20_64, e20_67, e20_68, e20_71, e20_72, e20_74, e20_75, e20_76, e20_77, e20_80, e20_81, e20_82, e20_85, e20_86, e20_87, e20_90, e20_94, e20_97, e20_99, e20_102, e20_103, zgF, zgA, zgR, zisO, zpush, zopt_some, ↓reduceIte, List.getElem?_cons_succ, List.getElem?_cons_zero, beq_self_eq_true, true_and, and_true, Bool.true_and, Bool.and_true, Bool.false_and, Bool.and_false, nI_1, not_true_eq_false, not_false_eq_true, vp_narI, e0, x0, x1, a1, e1, e2, b3]
        exact fin he
    · have a1 : nI l ≤ nI p := nI_le (by omega) (by omega)
      rw [if_neg (by unfold digB; simp [h2])] at he
      simp only [e20_0, e20_1, e20_3, e20_6, e20_9, e20_10, e20_11, e20_12, e20_13, e20_14, e20_16, e20_17, e20_20, e20_21, e20_24, e20_25, e20_28, e20_31, e20_32, e20_35, e20_36, e20_39, e20_40, e20_42, e20_45, e20_46, e20_49, e20_50, e20_53, e20_54, e20_56, e20_59, e20_60, e20_62, e20_63, e20_64, e20_67, e20_68, e20_71, e20_72, e20_74, e20_75, e20_76, e20_77, e20_80, e20_81, e20_82, e20_85, e20_86, e20_87, e20_90, e20_94, e20_97, e20_99, e20_102, e20_103, zgF, zgA, zgR, zisO, zpush, zopt_some, ↓reduceIte, List.getElem?_cons_succ, List.getElem?_cons_zero, beq_self_eq_true, true_and, and_true, Bool.true_and, Bool.and_true, Bool.false_and, Bool.and_false, nI_1, not_true_eq_false, not_false_eq_true, vp_narI, e0, x0, a1]
      exact fin he
theorem c_P_readNumber (hl : l ≤ 60) (hp : p ≤ l) (hP : zPx h l p kd fi se f) (hQ : ∀ h' : List zC, zFr (fun j => j = 80) h h' → zPx h' l (rdA f l p) kd fi se f → Q (some (.int (rdV f l p))) (h', z)) :
    Ev 20 0 [.ref 80, zU, zU] [] (h, z) Q := by
  have x0 := hP.1
  simp only [e20_0, e20_1, e20_3, e20_9, e20_10, e20_11, e20_12, e20_13, e20_14, e20_16, e20_17, e20_20, e20_21, e20_24, e20_25, e20_28, e20_31, e20_32, e20_35, e20_36, e20_39, e20_40, e20_42, e20_45, e20_46, e20_49, e20_50, e20_53, e20_54, e20_56, e20_59, e20_60, e20_62, e20_63, e20_64, e20_67, e20_68, e20_71, e20_72, e20_74, e20_75, e20_76, e20_77, e20_80, e20_81, e20_82, e20_85, e20_86, e20_87, e20_90, e20_93, e20_94, e20_97, e20_99, e20_102, e20_103, zgF, zgA, zgR, zisO, zpush, zopt_some, ↓reduceIte, List.getElem?_cons_succ, List.getElem?_cons_zero, beq_self_eq_true, true_and, and_true, Bool.true_and, Bool.and_true, Bool.false_and, Bool.and_false, nI_1, not_true_eq_false, not_false_eq_true, vp_narI, x0]
  refine c_P_skip hl hp hP (fun h1 F1 P1 => ?_)
  unfold rdA rdV at hQ
  by_cases hs : skB f l p 48 = true
  · rw [if_pos hs] at hQ
    simp only [if_pos hs] at hQ
    unfold skA at P1
    rw [if_pos hs] at P1
    simp only [e20_0, e20_1, e20_3, e20_6, e20_9, e20_10, e20_11, e20_12, e20_13, e20_14, e20_16, e20_17, e20_20, e20_21, e20_24, e20_25, e20_28, e20_31, e20_32, e20_35, e20_36, e20_39, e20_40, e20_42, e20_45, e20_46, e20_49, e20_50, e20_53, e20_54, e20_56, e20_59, e20_60, e20_62, e20_63, e20_64, e20_67, e20_68, e20_71, e20_72, e20_74, e20_75, e20_76, e20_77, e20_80, e20_81, e20_82, e20_85, e20_86, e20_87, e20_90, e20_93, e20_94, e20_97, e20_99, e20_102, e20_103, zgF, zgA, zgR, zisO, zpush, zopt_some, ↓reduceIte, List.getElem?_cons_succ, List.getElem?_cons_zero, beq_self_eq_true, true_and, and_true, Bool.true_and, Bool.and_true, Bool.false_and, Bool.and_false, nI_1, not_true_eq_false, not_false_eq_true, vp_narI, hs, zb_t, (show ¬ (1 : Int32) = 0 by decide)]
    exact hQ h1 F1 P1
  · simp only [if_neg hs] at hQ
    unfold skA at P1
    rw [if_neg hs] at P1
    rw [Bool.not_eq_true] at hs
    simp only [e20_0, e20_1, e20_3, e20_6, e20_9, e20_10, e20_11, e20_12, e20_13, e20_14, e20_16, e20_17, e20_20, e20_21, e20_24, e20_25, e20_28, e20_31, e20_32, e20_35, e20_36, e20_39, e20_40, e20_42, e20_45, e20_46, e20_49, e20_50, e20_53, e20_54, e20_56, e20_59, e20_60, e20_62, e20_63, e20_64, e20_67, e20_68, e20_71, e20_72, e20_74, e20_75, e20_76, e20_77, e20_80, e20_81, e20_82, e20_85, e20_86, e20_87, e20_90, e20_93, e20_94, e20_97, e20_99, e20_102, e20_103, zgF, zgA, zgR, zisO, zpush, zopt_some, ↓reduceIte, List.getElem?_cons_succ, List.getElem?_cons_zero, beq_self_eq_true, true_and, and_true, Bool.true_and, Bool.and_true, Bool.false_and, Bool.and_false, nI_1, not_true_eq_false, not_false_eq_true, vp_narI, hs, zb_f]
    exact l_P_readNumber (h := h1) hl (fun h' F' P' => hQ h' (F1.tr F') P') 4 0 0 p h1 rfl hp rfl zFr.rf P1 rfl
end ZC
end
