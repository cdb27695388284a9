/-! looking an object up; counts; what is lost with two servers -/
section
set_option maxRecDepth 100000
def lwc (a : Nat → Int32) (g : Int32) : Nat → Int32
  | 0 => 0
  | k + 1 => lwc a g k + (if setI (plK a k) &&& (g ^^^ (-1)) = 0 then 1 else 0)
def qLw (a : Nat → Int32) (s t : Int32) : Int32 := if zinb s (gN a 2) = true ∧ zinb t (gN a 2) = true then lwc a ((1 <<< (s &&& 31)) ||| (1 <<< (t &&& 31))) (gN a 3) else -1
section ZC
variable {h : List zC} {z : Nat × (Nat × (Nat → Int32))} {a : Nat → Int32} {Q : Option Value → zX → Prop} {P T : Nat} {n l : Nat} {H S : Nat → Nat → Int32} {sv f : Nat → Int32}
theorem l_D_lostWith {s t g : Int32} (hg : zG a) (hK : zKo h P T a) : ∀ (j i : Nat), i + j = gN a 3 → Ev 44 38 [.ref 0, .int s, .int t, .int g, .int (lwc a g i), .int (nI i)] [] (h, z) Q = Q (some (.int (lwc a g (gN a 3)))) (h, z) := by
  obtain ⟨⟨-, hD, hS, -⟩, ⟨cf, sf, lf, t, hL, hA⟩⟩ := hK
  have hD' : h[0]? = some (zob 5 [.ref 1, .ref 10, .ref 75, .ref 76, .ref 77, .ref 80, .ref P, .ref T]) := hD
  obtain ⟨g3, b3⟩ := hg.2.2.2.1
  have s0 := hS.1
  intro j
  induction j with
  | zero =>
    intro i hi
    have hi : i = gN a 3 := by omega
    subst hi
    have e1 : a 3 ≤ nI (gN a 3) := by rw [← g3]; exact Int32.le_refl _
    rw [e44_38]
    simp only [e44_0, e44_1, e44_4, e44_5, e44_8, e44_11, e44_12, e44_15, e44_16, e44_19, e44_22, e44_23, e44_24, e44_25, e44_26, e44_27, e44_28, e44_29, e44_30, e44_31, e44_32, e44_33, e44_35, e44_36, e44_40, e44_41, e44_44, e44_47, e44_50, e44_51, e44_54, e44_56, e44_59, e44_60, e44_61, e44_62, e44_63, e44_66, e44_69, e44_72, e44_75, e44_77, zgF, zgA, zgR, zisO, zpush, zopt_some, ↓reduceIte, List.getElem?_cons_succ, List.getElem?_cons_zero, beq_self_eq_true, true_and, and_true, Bool.true_and, Bool.and_true, Bool.false_and, Bool.and_false, nI_1, not_true_eq_false, not_false_eq_true, vp_narI, hD', s0, e1]
  | succ j ih =>
    intro i hi
    have e1 : ¬ a 3 ≤ nI i := by rw [g3]; exact nI_ge (by omega) (by omega)
    have c1 := fun (Q : Option Value → zX → Prop) => c_Y_serversOf (z := z) (Q := Q) hL (show i < 41 by omega) (hA.1 i (by omega)) (plK_ok hg i).2
    rw [← ih (i + 1) (by omega), e44_38]
    by_cases h1 : setI (plK a i) &&& (g ^^^ (-1)) = 0
    · simp only [e44_0, e44_1, e44_4, e44_5, e44_8, e44_11, e44_12, e44_15, e44_16, e44_19, e44_22, e44_23, e44_24, e44_25, e44_26, e44_27, e44_28, e44_29, e44_30, e44_31, e44_32, e44_33, e44_35, e44_36, e44_40, e44_41, e44_44, e44_47, e44_50, e44_51, e44_54, e44_56, e44_59, e44_60, e44_61, e44_62, e44_63, e44_66, e44_69, e44_72, e44_75, e44_77, zgF, zgA, zgR, zisO, zpush, zopt_some, ↓reduceIte, List.getElem?_cons_succ, List.getElem?_cons_zero, beq_self_eq_true, true_and, and_true, Bool.true_and, Bool.and_true, Bool.false_and, Bool.and_false, nI_1, not_true_eq_false, not_false_eq_true, vp_narI, hD', s0, e1, hL.1, c1, h1, lwc]
    · simp only [e44_0, e44_1, e44_4, e44_5, e44_8, e44_11, e44_12, e44_15, e44_16, e44_19, e44_22, e44_23, e44_24, e44_25, e44_26, e44_27, e44_28, e44_29, e44_30, e44_31, e44_32, e44_33, e44_35, e44_36, e44_40, e44_41, e44_44, e44_47, e44_50, e44_51, e44_54, e44_56, e44_59, e44_60, e44_61, e44_62, e44_63, e44_66, e44_69, e44_72, e44_75, e44_77, zgF, zgA, zgR, zisO, zpush, zopt_some, ↓reduceIte, List.getElem?_cons_succ, List.getElem?_cons_zero, beq_self_eq_true, true_and, and_true, Bool.true_and, Bool.and_true, Bool.false_and, Bool.and_false, nI_1, not_true_eq_false, not_false_eq_true, vp_narI, hD', s0, e1, hL.1, c1, h1, lwc, Int32.add_zero]
theorem c_D_lostWith {s t : Int32} (hg : zG a) (hK : zKo h P T a) : Ev 44 0 [.ref 0, .int s, .int t, zU, zU, zU] [] (h, z) Q = Q (some (.int (qLw a s t))) (h, z) := by
  have L := fun (g : Int32) (Q : Option Value → zX → Prop) => l_D_lostWith (s := s) (t := t) (g := g) (z := z) (Q := Q) hg hK (gN a 3) 0 (by omega)
  obtain ⟨⟨-, hD, hS, -⟩, -⟩ := hK
  have hD' : h[0]? = some (zob 5 [.ref 1, .ref 10, .ref 75, .ref 76, .ref 77, .ref 80, .ref P, .ref T]) := hD
  have s0 := hS.1
  have c1 := fun (s : Int32) (Q : Option Value → zX → Prop) => c_S_hasServer (s := s) (z := z) (Q := Q) hS hg
  have n1 : ¬ (1 : Int32) = 0 := by decide
  unfold qLw
  by_cases h1 : zinb s (gN a 2) = true
  · by_cases h2 : zinb t (gN a 2) = true
    · rw [if_pos ⟨h1, h2⟩]
      refine Eq.trans ?_ (L _ Q)
      simp only [e44_0, e44_1, e44_4, e44_5, e44_8, e44_11, e44_12, e44_15, e44_16, e44_19, e44_22, e44_23, e44_24, e44_25, e44_26, e44_27, e44_28, e44_29, e44_30, e44_31, e44_32, e44_33, e44_35, e44_36, e44_40, e44_41, e44_44, e44_47, e44_50, e44_51, e44_54, e44_56, e44_59, e44_60, e44_61, e44_62, e44_63, e44_66, e44_69, e44_72, e44_75, e44_77, zgF, zgA, zgR, zisO, zpush, zopt_some, ↓reduceIte, List.getElem?_cons_succ, List.getElem?_cons_zero, beq_self_eq_true, true_and, and_true, Bool.true_and, Bool.and_true, Bool.false_and, Bool.and_false, nI_1, not_true_eq_false, not_false_eq_true, vp_narI, hD', s0, c1, h1, h2, zb_t, n1]
      rfl
    · rw [if_neg (fun h => h2 h.2)]
      rw [Bool.not_eq_true] at h2
      simp only [e44_0, e44_1, e44_4, e44_5, e44_8, e44_11, e44_12, e44_15, e44_16, e44_19, e44_22, e44_23, e44_24, e44_25, e44_26, e44_27, e44_28, e44_29, e44_30, e44_31, e44_32, e44_33, e44_35, e44_36, e44_40, e44_41, e44_44, e44_47, e44_50, e44_51, e44_54, e44_56, e44_59, e44_60, e44_61, e44_62, e44_63, e44_66, e44_69, e44_72, e44_75, e44_77, zgF, zgA, zgR, zisO, zpush, zopt_some, ↓reduceIte, List.getElem?_cons_succ, List.getElem?_cons_zero, beq_self_eq_true, true_and, and_true, Bool.true_and, Bool.and_true, Bool.false_and, Bool.and_false, nI_1, not_true_eq_false, not_false_eq_true, vp_narI, hD', s0, c1, h1, h2, zb_t, zb_f, n1]
  · rw [if_neg (fun h => h1 h.1)]
    rw [Bool.not_eq_true] at h1
    simp only [e44_0, e44_1, e44_4, e44_5, e44_8, e44_11, e44_12, e44_15, e44_16, e44_19, e44_22, e44_23, e44_24, e44_25, e44_26, e44_27, e44_28, e44_29, e44_30, e44_31, e44_32, e44_33, e44_35, e44_36, e44_40, e44_41, e44_44, e44_47, e44_50, e44_51, e44_54, e44_56, e44_59, e44_60, e44_61, e44_62, e44_63, e44_66, e44_69, e44_72, e44_75, e44_77, zgF, zgA, zgR, zisO, zpush, zopt_some, ↓reduceIte, List.getElem?_cons_succ, List.getElem?_cons_zero, beq_self_eq_true, true_and, and_true, Bool.true_and, Bool.and_true, Bool.false_and, Bool.and_false, nI_1, not_true_eq_false, not_false_eq_true, vp_narI, hD', s0, c1, h1, zb_f]
theorem c_D_place {o c : Int32} (hg : zG a) (hK : zKo h P T a) (hQ : ∀ h' : List zC, zFr zWr h h' → zKo h' P T a → Q (some (.int (qPl a o c))) (h', z)) : Ev 38 0 [.ref 0, .int o, .int c, zU] [] (h, z) Q := by
  obtain ⟨⟨hPT, hD, hS, ⟨ln, dr, hW, hC⟩, hL1, ⟨cf', sf', lf', t', hT⟩⟩, ⟨cf, sf, lf, t, hL, hA⟩⟩ := id hK
  have pt : (P = 82 ∧ T = 86) ∨ (P = 86 ∧ T = 82) := hPT
  have hD' : h[0]? = some (zob 5 [.ref 1, .ref 10, .ref 75, .ref 76, .ref 77, .ref 80, .ref P, .ref T]) := hD
  have s0 := hS.1
  have c2 := fun (o : Int32) (Q : Option Value → zX → Prop) => c_S_rowOf (s := o) (z := z) (Q := Q) hS hg
  have e0 : ∀ o, fndF (fun i => a (41 + i) == o) (gN a 3) 0 = fnd a o := fun _ => rfl
  simp only [e0] at c2
  have b3 := hg.2.2.2.1.2
  unfold qPl at hQ
  by_cases ho : zinb o 10000 = true
  · obtain ⟨q, hq, rfl⟩ := zinb_ex ho (by decide)
    have a1 : ¬ nI q < 0 := nI_pos (by omega)
    have a2 : ¬ (9999 : Int32) < nI q := nI_nlt (a := 9999) (show q ≤ 9999 by omega) (by omega)
    by_cases hc : c < 0
    · rw [if_neg (fun h => h.2 hc)] at hQ
      have hc' : ¬ (0 : Int32) ≤ c := Int32.not_le.mpr hc
      simp only [e38_0, e38_1, e38_4, e38_5, e38_8, e38_11, e38_12, e38_15, e38_17, e38_18, e38_19, e38_22, e38_23, e38_26, e38_27, e38_28, e38_30, e38_33, e38_34, e38_37, e38_38, e38_39, e38_42, e38_43, e38_44, e38_47, e38_50, e38_51, e38_54, e38_55, e38_58, e38_60, e38_61, e38_64, e38_65, e38_68, e38_69, e38_72, e38_74, e38_76, e38_77, e38_80, e38_83, e38_84, e38_87, e38_89, e38_90, e38_93, zgF, zgA, zgR, zisO, zpush, zopt_some, ↓reduceIte, List.getElem?_cons_succ, List.getElem?_cons_zero, beq_self_eq_true, true_and, and_true, Bool.true_and, Bool.and_true, Bool.false_and, Bool.and_false, nI_1, not_true_eq_false, not_false_eq_true, vp_narI, a1, a2, hc']
      exact hQ h zFr.rf hK
    · rw [if_pos ⟨ho, hc⟩, nI_clamp (n := q) (by omega)] at hQ
      have hc' : (0 : Int32) ≤ c := Int32.not_lt.mp hc
      by_cases h6 : fnd a (nI q) = -6
      · rw [if_pos h6] at hQ
        simp only [e38_0, e38_1, e38_4, e38_5, e38_8, e38_11, e38_12, e38_15, e38_17, e38_18, e38_19, e38_22, e38_23, e38_26, e38_27, e38_28, e38_30, e38_33, e38_34, e38_37, e38_38, e38_39, e38_42, e38_43, e38_44, e38_47, e38_50, e38_51, e38_54, e38_55, e38_58, e38_60, e38_61, e38_64, e38_65, e38_68, e38_69, e38_72, e38_74, e38_76, e38_77, e38_80, e38_83, e38_84, e38_87, e38_89, e38_90, e38_93, zgF, zgA, zgR, zisO, zpush, zopt_some, ↓reduceIte, List.getElem?_cons_succ, List.getElem?_cons_zero, beq_self_eq_true, true_and, and_true, Bool.true_and, Bool.and_true, Bool.false_and, Bool.and_false, nI_1, not_true_eq_false, not_false_eq_true, vp_narI, hD', s0, a1, a2, hc', c2, h6, hT.1]
        refine c_Y_clear hT (fun h1 cf1 lf1 F1 L1 z1 _ => ?_)
        have D1 : h1[0]? = some (zob 5 [.ref 1, .ref 10, .ref 75, .ref 76, .ref 77, .ref 80, .ref P, .ref T]) := F1.at hD' (by omega)
        have S1 := hS.fr (h' := h1) (fun j x y => F1.2 j (by omega))
        have W1 := hW.fr (h' := h1) (fun j x y => F1.2 j (by omega))
        simp only [e38_0, e38_1, e38_4, e38_5, e38_8, e38_11, e38_12, e38_15, e38_17, e38_18, e38_19, e38_22, e38_23, e38_26, e38_27, e38_28, e38_30, e38_33, e38_34, e38_37, e38_38, e38_39, e38_42, e38_43, e38_44, e38_47, e38_50, e38_51, e38_54, e38_55, e38_58, e38_60, e38_61, e38_64, e38_65, e38_68, e38_69, e38_72, e38_74, e38_76, e38_77, e38_80, e38_83, e38_84, e38_87, e38_89, e38_90, e38_93, zgF, zgA, zgR, zisO, zpush, zopt_some, ↓reduceIte, List.getElem?_cons_succ, List.getElem?_cons_zero, beq_self_eq_true, true_and, and_true, Bool.true_and, Bool.and_true, Bool.false_and, Bool.and_false, nI_1, not_true_eq_false, not_false_eq_true, vp_narI, D1, S1.1, W1.1, (show (40 : Int32) = nI 40 from rfl)]
        refine c_W_draw hg (r := 40) (by decide) (by omega) S1 W1 hC (fun h2 ln2 dr2 F2 W2 C2 hd => ?_)
        have D2 : h2[0]? = some (zob 5 [.ref 1, .ref 10, .ref 75, .ref 76, .ref 77, .ref 80, .ref P, .ref T]) := F2.at D1 (by omega)
        have S2 := S1.fr (h' := h2) (fun j x y => F2.2 j (by omega))
        have L2 := L1.fr (h' := h2) (fun j x y => F2.2 j (by omega))
        simp only [e38_0, e38_1, e38_4, e38_5, e38_8, e38_11, e38_12, e38_15, e38_17, e38_18, e38_19, e38_22, e38_23, e38_26, e38_27, e38_28, e38_30, e38_33, e38_34, e38_37, e38_38, e38_39, e38_42, e38_43, e38_44, e38_47, e38_50, e38_51, e38_54, e38_55, e38_58, e38_60, e38_61, e38_64, e38_65, e38_68, e38_69, e38_72, e38_74, e38_76, e38_77, e38_80, e38_83, e38_84, e38_87, e38_89, e38_90, e38_93, zgF, zgA, zgR, zisO, zpush, zopt_some, ↓reduceIte, List.getElem?_cons_succ, List.getElem?_cons_zero, beq_self_eq_true, true_and, and_true, Bool.true_and, Bool.and_true, Bool.false_and, Bool.and_false, nI_1, not_true_eq_false, not_false_eq_true, vp_narI, D2, S2.1, W2.1, (show (40 : Int32) = nI 40 from rfl)]
        refine c_W_lay hg (r := 40) (o := q) (by decide) (by omega) S2 W2 hd L2 (z1 40 (by decide)) (fun h3 cf3 sf3 lf3 t3 F3 L3 R3 => ?_)
        have D3 : h3[0]? = some (zob 5 [.ref 1, .ref 10, .ref 75, .ref 76, .ref 77, .ref 80, .ref P, .ref T]) := F3.at D2 (by omega)
        have c3 := fun (Q : Option Value → zX → Prop) => c_Y_serverOf (z := z) (Q := Q) (c := c) (r := 40) L3 (by decide) (show zHas cf3 sf3 40 (plc a q (-6)) from ⟨R3.1, R3.2.2.1⟩) (plc_ok hg q (-6)).2
        simp only [e38_0, e38_1, e38_4, e38_5, e38_8, e38_11, e38_12, e38_15, e38_17, e38_18, e38_19, e38_22, e38_23, e38_26, e38_27, e38_28, e38_30, e38_33, e38_34, e38_37, e38_38, e38_39, e38_42, e38_43, e38_44, e38_47, e38_50, e38_51, e38_54, e38_55, e38_58, e38_60, e38_61, e38_64, e38_65, e38_68, e38_69, e38_72, e38_74, e38_76, e38_77, e38_80, e38_83, e38_84, e38_87, e38_89, e38_90, e38_93, zgF, zgA, zgR, zisO, zpush, zopt_some, ↓reduceIte, List.getElem?_cons_succ, List.getElem?_cons_zero, beq_self_eq_true, true_and, and_true, Bool.true_and, Bool.and_true, Bool.false_and, Bool.and_false, nI_1, not_true_eq_false, not_false_eq_true, vp_narI, D3, L3.1, (show (40 : Int32) = nI 40 from rfl), c3]
        refine hQ h3 (((F1.mono (fun j h => by unfold zWr; omega)).tr (F2.mono (fun j h => by unfold zWr; omega))).tr (F3.mono (fun j h => by unfold zWr; omega))) ⟨⟨hPT, D3, S2.fr (fun j x y => F3.2 j (by omega)), W2.ex C2 (fun j x y => F3.2 j (by omega)), hL.ex (fun j x y => ?_), ⟨cf3, sf3, lf3, t3, L3⟩⟩, hK.2.fr (fun j x y => ?_)⟩
        · exact ((F3.2 j (by omega)).trans (F2.2 j (by omega))).trans (F1.2 j (by omega))
        · exact ((F3.2 j (by omega)).trans (F2.2 j (by omega))).trans (F1.2 j (by omega))
      · rw [if_neg h6] at hQ
        obtain ⟨r, hr, -, h3, h4⟩ := fnd_ok hg h6
        rw [h4] at hQ
        have n6 : ¬ nI r = -6 := nI_ne6 (by omega)
        have c3 := fun (Q : Option Value → zX → Prop) => c_Y_serverOf (z := z) (Q := Q) (c := c) (r := r) hL (by omega) (hA.1 r hr) (plK_ok hg r).2
        simp only [e38_0, e38_1, e38_4, e38_5, e38_8, e38_11, e38_12, e38_15, e38_17, e38_18, e38_19, e38_22, e38_23, e38_26, e38_27, e38_28, e38_30, e38_33, e38_34, e38_37, e38_38, e38_39, e38_42, e38_43, e38_44, e38_47, e38_50, e38_51, e38_54, e38_55, e38_58, e38_60, e38_61, e38_64, e38_65, e38_68, e38_69, e38_72, e38_74, e38_76, e38_77, e38_80, e38_83, e38_84, e38_87, e38_89, e38_90, e38_93, zgF, zgA, zgR, zisO, zpush, zopt_some, ↓reduceIte, List.getElem?_cons_succ, List.getElem?_cons_zero, beq_self_eq_true, true_and, and_true, Bool.true_and, Bool.and_true, Bool.false_and, Bool.and_false, nI_1, not_true_eq_false, not_false_eq_true, vp_narI, hD', s0, a1, a2, hc', c2, h3, n6, hL.1, c3]
        exact hQ h zFr.rf hK
  · rw [if_neg (fun h => ho h.1)] at hQ
    rw [Bool.not_eq_true] at ho
    rcases (zinb_no (by decide)).mp ho with h3 | h3
    · simp only [e38_0, e38_1, e38_4, e38_5, e38_8, e38_11, e38_12, e38_15, e38_17, e38_18, e38_19, e38_22, e38_23, e38_26, e38_27, e38_28, e38_30, e38_33, e38_34, e38_37, e38_38, e38_39, e38_42, e38_43, e38_44, e38_47, e38_50, e38_51, e38_54, e38_55, e38_58, e38_60, e38_61, e38_64, e38_65, e38_68, e38_69, e38_72, e38_74, e38_76, e38_77, e38_80, e38_83, e38_84, e38_87, e38_89, e38_90, e38_93, zgF, zgA, zgR, zisO, zpush, zopt_some, ↓reduceIte, List.getElem?_cons_succ, List.getElem?_cons_zero, beq_self_eq_true, true_and, and_true, Bool.true_and, Bool.and_true, Bool.false_and, Bool.and_false, nI_1, not_true_eq_false, not_false_eq_true, vp_narI, h3]
      exact hQ h zFr.rf hK
    · have a1 : ¬ o < 0 := Int32.not_lt.mpr (Int32.le_trans (by decide) h3)
      have a2 : (9999 : Int32) < o := Int32.lt_of_lt_of_le (by decide) h3
      simp only [e38_0, e38_1, e38_4, e38_5, e38_8, e38_11, e38_12, e38_15, e38_17, e38_18, e38_19, e38_22, e38_23, e38_26, e38_27, e38_28, e38_30, e38_33, e38_34, e38_37, e38_38, e38_39, e38_42, e38_43, e38_44, e38_47, e38_50, e38_51, e38_54, e38_55, e38_58, e38_60, e38_61, e38_64, e38_65, e38_68, e38_69, e38_72, e38_74, e38_76, e38_77, e38_80, e38_83, e38_84, e38_87, e38_89, e38_90, e38_93, zgF, zgA, zgR, zisO, zpush, zopt_some, ↓reduceIte, List.getElem?_cons_succ, List.getElem?_cons_zero, beq_self_eq_true, true_and, and_true, Bool.true_and, Bool.and_true, Bool.false_and, Bool.and_false, nI_1, not_true_eq_false, not_false_eq_true, vp_narI, a1, a2]
      exact hQ h zFr.rf hK
theorem c_D_count {w : Int32} (hg : zG a) (hK : zCl h a n H sv S l f) : Ev 42 0 [.ref 0, .int w] [] (h, z) Q = Q (some (.int (qCt a l n w))) (h, z) := by
  obtain ⟨⟨P, T, ⟨⟨-, hD, hS, -⟩, ⟨cf, sf, lf, t, hL, hA⟩⟩⟩, ⟨o, ⟨x0, -⟩, -⟩, -, ⟨⟨at_, kd, fi, se, p0⟩, -⟩⟩ := hK
  have hD' : h[0]? = some (zob 5 [.ref 1, .ref 10, .ref 75, .ref 76, .ref 77, .ref 80, .ref P, .ref T]) := hD
  obtain ⟨g3, b3⟩ := hg.2.2.2.1
  have s0 := hS.1
  have c1 := fun (Q : Option Value → zX → Prop) => c_S_serversTakingPart (z := z) (Q := Q) hS hg
  have c2 := fun (Q : Option Value → zX → Prop) => c_S_weightsTogether (z := z) (Q := Q) hS hg
  have c3 := fun (Q : Option Value → zX → Prop) => c_D_mostOverloaded (z := z) (Q := Q) hg hD hS hL hA.2.2.2 hA.2.2.1
  have c4 := fun (Q : Option Value → zX → Prop) => c_Y_rowsBelow (z := z) (w := a 0) (Q := Q) hg hL hA b3
  rw [← g3] at c4
  rcases zsw (w := w) 11 (by decide) with ⟨k, hk, rfl⟩ | ho
  · rcases (show k = 0 ∨ k = 1 ∨ k = 2 ∨ k = 3 ∨ k = 4 ∨ k = 5 ∨ k = 6 ∨ k = 7 ∨ k = 8 ∨ k = 9 ∨ k = 10 ∨ k = 11 by omega) with rfl | rfl | rfl | rfl | rfl | rfl | rfl | rfl | rfl | rfl | rfl | rfl
    · rw [show qCt a l n (nI 0) = a 2 from rfl, show nI 0 = (0 : Int32) from rfl]
      simp only [e42_0, e42_1_c0, e42_1_c1, e42_1_c2, e42_1_c3, e42_1_c4, e42_1_c5, e42_1_c6, e42_1_c7, e42_1_c8, e42_1_c9, e42_1_c10, e42_1_c11, e42_64, e42_65, e42_68, e42_71, e42_72, e42_73, e42_76, e42_79, e42_80, e42_81, e42_84, e42_87, e42_88, e42_89, e42_92, e42_93, e42_96, e42_99, e42_100, e42_103, e42_106, e42_109, e42_110, e42_111, e42_114, e42_117, e42_118, e42_119, e42_122, e42_125, e42_126, e42_127, e42_130, e42_133, e42_134, e42_135, e42_138, e42_139, e42_140, e42_143, e42_146, e42_147, e42_148, e42_151, e42_154, e42_155, e42_156, e42_159, e42_162, e42_163, e42_164, e42_167, e42_170, e42_171, e42_173, zgF, zgA, zgR, zisO, zpush, zopt_some, ↓reduceIte, List.getElem?_cons_succ, List.getElem?_cons_zero, beq_self_eq_true, true_and, and_true, Bool.true_and, Bool.and_true, Bool.false_and, Bool.and_false, nI_1, not_true_eq_false, not_false_eq_true, vp_narI, hD', s0]
    · rw [show qCt a l n (nI 1) = a 3 from rfl, show nI 1 = (1 : Int32) from rfl]
      simp only [e42_0, e42_1_c0, e42_1_c1, e42_1_c2, e42_1_c3, e42_1_c4, e42_1_c5, e42_1_c6, e42_1_c7, e42_1_c8, e42_1_c9, e42_1_c10, e42_1_c11, e42_64, e42_65, e42_68, e42_71, e42_72, e42_73, e42_76, e42_79, e42_80, e42_81, e42_84, e42_87, e42_88, e42_89, e42_92, e42_93, e42_96, e42_99, e42_100, e42_103, e42_106, e42_109, e42_110, e42_111, e42_114, e42_117, e42_118, e42_119, e42_122, e42_125, e42_126, e42_127, e42_130, e42_133, e42_134, e42_135, e42_138, e42_139, e42_140, e42_143, e42_146, e42_147, e42_148, e42_151, e42_154, e42_155, e42_156, e42_159, e42_162, e42_163, e42_164, e42_167, e42_170, e42_171, e42_173, zgF, zgA, zgR, zisO, zpush, zopt_some, ↓reduceIte, List.getElem?_cons_succ, List.getElem?_cons_zero, beq_self_eq_true, true_and, and_true, Bool.true_and, Bool.and_true, Bool.false_and, Bool.and_false, nI_1, not_true_eq_false, not_false_eq_true, vp_narI, hD', s0]
    · rw [show qCt a l n (nI 2) = tot a (gN a 3) from rfl, show nI 2 = (2 : Int32) from rfl]
      simp only [e42_0, e42_1_c0, e42_1_c1, e42_1_c2, e42_1_c3, e42_1_c4, e42_1_c5, e42_1_c6, e42_1_c7, e42_1_c8, e42_1_c9, e42_1_c10, e42_1_c11, e42_64, e42_65, e42_68, e42_71, e42_72, e42_73, e42_76, e42_79, e42_80, e42_81, e42_84, e42_87, e42_88, e42_89, e42_92, e42_93, e42_96, e42_99, e42_100, e42_103, e42_106, e42_109, e42_110, e42_111, e42_114, e42_117, e42_118, e42_119, e42_122, e42_125, e42_126, e42_127, e42_130, e42_133, e42_134, e42_135, e42_138, e42_139, e42_140, e42_143, e42_146, e42_147, e42_148, e42_151, e42_154, e42_155, e42_156, e42_159, e42_162, e42_163, e42_164, e42_167, e42_170, e42_171, e42_173, zgF, zgA, zgR, zisO, zpush, zopt_some, ↓reduceIte, List.getElem?_cons_succ, List.getElem?_cons_zero, beq_self_eq_true, true_and, and_true, Bool.true_and, Bool.and_true, Bool.false_and, Bool.and_false, nI_1, not_true_eq_false, not_false_eq_true, vp_narI, hD', hL.1, hA.2.2.2]
    · rw [show qCt a l n (nI 3) = nbl a (a 0) (gN a 3) from rfl, show nI 3 = (3 : Int32) from rfl]
      simp only [e42_0, e42_1_c0, e42_1_c1, e42_1_c2, e42_1_c3, e42_1_c4, e42_1_c5, e42_1_c6, e42_1_c7, e42_1_c8, e42_1_c9, e42_1_c10, e42_1_c11, e42_64, e42_65, e42_68, e42_71, e42_72, e42_73, e42_76, e42_79, e42_80, e42_81, e42_84, e42_87, e42_88, e42_89, e42_92, e42_93, e42_96, e42_99, e42_100, e42_103, e42_106, e42_109, e42_110, e42_111, e42_114, e42_117, e42_118, e42_119, e42_122, e42_125, e42_126, e42_127, e42_130, e42_133, e42_134, e42_135, e42_138, e42_139, e42_140, e42_143, e42_146, e42_147, e42_148, e42_151, e42_154, e42_155, e42_156, e42_159, e42_162, e42_163, e42_164, e42_167, e42_170, e42_171, e42_173, zgF, zgA, zgR, zisO, zpush, zopt_some, ↓reduceIte, List.getElem?_cons_succ, List.getElem?_cons_zero, beq_self_eq_true, true_and, and_true, Bool.true_and, Bool.and_true, Bool.false_and, Bool.and_false, nI_1, not_true_eq_false, not_false_eq_true, vp_narI, hD', s0, hL.1, c4]
    · rw [show qCt a l n (nI 4) = a 4 from rfl, show nI 4 = (4 : Int32) from rfl]
      simp only [e42_0, e42_1_c0, e42_1_c1, e42_1_c2, e42_1_c3, e42_1_c4, e42_1_c5, e42_1_c6, e42_1_c7, e42_1_c8, e42_1_c9, e42_1_c10, e42_1_c11, e42_64, e42_65, e42_68, e42_71, e42_72, e42_73, e42_76, e42_79, e42_80, e42_81, e42_84, e42_87, e42_88, e42_89, e42_92, e42_93, e42_96, e42_99, e42_100, e42_103, e42_106, e42_109, e42_110, e42_111, e42_114, e42_117, e42_118, e42_119, e42_122, e42_125, e42_126, e42_127, e42_130, e42_133, e42_134, e42_135, e42_138, e42_139, e42_140, e42_143, e42_146, e42_147, e42_148, e42_151, e42_154, e42_155, e42_156, e42_159, e42_162, e42_163, e42_164, e42_167, e42_170, e42_171, e42_173, zgF, zgA, zgR, zisO, zpush, zopt_some, ↓reduceIte, List.getElem?_cons_succ, List.getElem?_cons_zero, beq_self_eq_true, true_and, and_true, Bool.true_and, Bool.and_true, Bool.false_and, Bool.and_false, nI_1, not_true_eq_false, not_false_eq_true, vp_narI, hD', s0]
    · rw [show qCt a l n (nI 5) = ntp a (gN a 2) from rfl, show nI 5 = (5 : Int32) from rfl]
      simp only [e42_0, e42_1_c0, e42_1_c1, e42_1_c2, e42_1_c3, e42_1_c4, e42_1_c5, e42_1_c6, e42_1_c7, e42_1_c8, e42_1_c9, e42_1_c10, e42_1_c11, e42_64, e42_65, e42_68, e42_71, e42_72, e42_73, e42_76, e42_79, e42_80, e42_81, e42_84, e42_87, e42_88, e42_89, e42_92, e42_93, e42_96, e42_99, e42_100, e42_103, e42_106, e42_109, e42_110, e42_111, e42_114, e42_117, e42_118, e42_119, e42_122, e42_125, e42_126, e42_127, e42_130, e42_133, e42_134, e42_135, e42_138, e42_139, e42_140, e42_143, e42_146, e42_147, e42_148, e42_151, e42_154, e42_155, e42_156, e42_159, e42_162, e42_163, e42_164, e42_167, e42_170, e42_171, e42_173, zgF, zgA, zgR, zisO, zpush, zopt_some, ↓reduceIte, List.getElem?_cons_succ, List.getElem?_cons_zero, beq_self_eq_true, true_and, and_true, Bool.true_and, Bool.and_true, Bool.false_and, Bool.and_false, nI_1, not_true_eq_false, not_false_eq_true, vp_narI, hD', s0, c1]
    · rw [show qCt a l n (nI 6) = wsum a (gN a 2) from rfl, show nI 6 = (6 : Int32) from rfl]
      simp only [e42_0, e42_1_c0, e42_1_c1, e42_1_c2, e42_1_c3, e42_1_c4, e42_1_c5, e42_1_c6, e42_1_c7, e42_1_c8, e42_1_c9, e42_1_c10, e42_1_c11, e42_64, e42_65, e42_68, e42_71, e42_72, e42_73, e42_76, e42_79, e42_80, e42_81, e42_84, e42_87, e42_88, e42_89, e42_92, e42_93, e42_96, e42_99, e42_100, e42_103, e42_106, e42_109, e42_110, e42_111, e42_114, e42_117, e42_118, e42_119, e42_122, e42_125, e42_126, e42_127, e42_130, e42_133, e42_134, e42_135, e42_138, e42_139, e42_140, e42_143, e42_146, e42_147, e42_148, e42_151, e42_154, e42_155, e42_156, e42_159, e42_162, e42_163, e42_164, e42_167, e42_170, e42_171, e42_173, zgF, zgA, zgR, zisO, zpush, zopt_some, ↓reduceIte, List.getElem?_cons_succ, List.getElem?_cons_zero, beq_self_eq_true, true_and, and_true, Bool.true_and, Bool.and_true, Bool.false_and, Bool.and_false, nI_1, not_true_eq_false, not_false_eq_true, vp_narI, hD', s0, c2]
    · rw [show qCt a l n (nI 7) = encB (mst a (gN a 2)) from rfl, show nI 7 = (7 : Int32) from rfl]
      simp only [e42_0, e42_1_c0, e42_1_c1, e42_1_c2, e42_1_c3, e42_1_c4, e42_1_c5, e42_1_c6, e42_1_c7, e42_1_c8, e42_1_c9, e42_1_c10, e42_1_c11, e42_64, e42_65, e42_68, e42_71, e42_72, e42_73, e42_76, e42_79, e42_80, e42_81, e42_84, e42_87, e42_88, e42_89, e42_92, e42_93, e42_96, e42_99, e42_100, e42_103, e42_106, e42_109, e42_110, e42_111, e42_114, e42_117, e42_118, e42_119, e42_122, e42_125, e42_126, e42_127, e42_130, e42_133, e42_134, e42_135, e42_138, e42_139, e42_140, e42_143, e42_146, e42_147, e42_148, e42_151, e42_154, e42_155, e42_156, e42_159, e42_162, e42_163, e42_164, e42_167, e42_170, e42_171, e42_173, zgF, zgA, zgR, zisO, zpush, zopt_some, ↓reduceIte, List.getElem?_cons_succ, List.getElem?_cons_zero, beq_self_eq_true, true_and, and_true, Bool.true_and, Bool.and_true, Bool.false_and, Bool.and_false, nI_1, not_true_eq_false, not_false_eq_true, vp_narI, hD', c3]
    · rw [show qCt a l n (nI 8) = a 0 from rfl, show nI 8 = (8 : Int32) from rfl]
      simp only [e42_0, e42_1_c0, e42_1_c1, e42_1_c2, e42_1_c3, e42_1_c4, e42_1_c5, e42_1_c6, e42_1_c7, e42_1_c8, e42_1_c9, e42_1_c10, e42_1_c11, e42_64, e42_65, e42_68, e42_71, e42_72, e42_73, e42_76, e42_79, e42_80, e42_81, e42_84, e42_87, e42_88, e42_89, e42_92, e42_93, e42_96, e42_99, e42_100, e42_103, e42_106, e42_109, e42_110, e42_111, e42_114, e42_117, e42_118, e42_119, e42_122, e42_125, e42_126, e42_127, e42_130, e42_133, e42_134, e42_135, e42_138, e42_139, e42_140, e42_143, e42_146, e42_147, e42_148, e42_151, e42_154, e42_155, e42_156, e42_159, e42_162, e42_163, e42_164, e42_167, e42_170, e42_171, e42_173, zgF, zgA, zgR, zisO, zpush, zopt_some, ↓reduceIte, List.getElem?_cons_succ, List.getElem?_cons_zero, beq_self_eq_true, true_and, and_true, Bool.true_and, Bool.and_true, Bool.false_and, Bool.and_false, nI_1, not_true_eq_false, not_false_eq_true, vp_narI, hD', s0]
    · rw [show qCt a l n (nI 9) = a 1 from rfl, show nI 9 = (9 : Int32) from rfl]
      simp only [e42_0, e42_1_c0, e42_1_c1, e42_1_c2, e42_1_c3, e42_1_c4, e42_1_c5, e42_1_c6, e42_1_c7, e42_1_c8, e42_1_c9, e42_1_c10, e42_1_c11, e42_64, e42_65, e42_68, e42_71, e42_72, e42_73, e42_76, e42_79, e42_80, e42_81, e42_84, e42_87, e42_88, e42_89, e42_92, e42_93, e42_96, e42_99, e42_100, e42_103, e42_106, e42_109, e42_110, e42_111, e42_114, e42_117, e42_118, e42_119, e42_122, e42_125, e42_126, e42_127, e42_130, e42_133, e42_134, e42_135, e42_138, e42_139, e42_140, e42_143, e42_146, e42_147, e42_148, e42_151, e42_154, e42_155, e42_156, e42_159, e42_162, e42_163, e42_164, e42_167, e42_170, e42_171, e42_173, zgF, zgA, zgR, zisO, zpush, zopt_some, ↓reduceIte, List.getElem?_cons_succ, List.getElem?_cons_zero, beq_self_eq_true, true_and, and_true, Bool.true_and, Bool.and_true, Bool.false_and, Bool.and_false, nI_1, not_true_eq_false, not_false_eq_true, vp_narI, hD', s0]
    · rw [show qCt a l n (nI 10) = nI l from rfl, show nI 10 = (10 : Int32) from rfl]
      simp only [e42_0, e42_1_c0, e42_1_c1, e42_1_c2, e42_1_c3, e42_1_c4, e42_1_c5, e42_1_c6, e42_1_c7, e42_1_c8, e42_1_c9, e42_1_c10, e42_1_c11, e42_64, e42_65, e42_68, e42_71, e42_72, e42_73, e42_76, e42_79, e42_80, e42_81, e42_84, e42_87, e42_88, e42_89, e42_92, e42_93, e42_96, e42_99, e42_100, e42_103, e42_106, e42_109, e42_110, e42_111, e42_114, e42_117, e42_118, e42_119, e42_122, e42_125, e42_126, e42_127, e42_130, e42_133, e42_134, e42_135, e42_138, e42_139, e42_140, e42_143, e42_146, e42_147, e42_148, e42_151, e42_154, e42_155, e42_156, e42_159, e42_162, e42_163, e42_164, e42_167, e42_170, e42_171, e42_173, zgF, zgA, zgR, zisO, zpush, zopt_some, ↓reduceIte, List.getElem?_cons_succ, List.getElem?_cons_zero, beq_self_eq_true, true_and, and_true, Bool.true_and, Bool.and_true, Bool.false_and, Bool.and_false, nI_1, not_true_eq_false, not_false_eq_true, vp_narI, hD', p0]
    · rw [show qCt a l n (nI 11) = nI n from rfl, show nI 11 = (11 : Int32) from rfl]
      simp only [e42_0, e42_1_c0, e42_1_c1, e42_1_c2, e42_1_c3, e42_1_c4, e42_1_c5, e42_1_c6, e42_1_c7, e42_1_c8, e42_1_c9, e42_1_c10, e42_1_c11, e42_64, e42_65, e42_68, e42_71, e42_72, e42_73, e42_76, e42_79, e42_80, e42_81, e42_84, e42_87, e42_88, e42_89, e42_92, e42_93, e42_96, e42_99, e42_100, e42_103, e42_106, e42_109, e42_110, e42_111, e42_114, e42_117, e42_118, e42_119, e42_122, e42_125, e42_126, e42_127, e42_130, e42_133, e42_134, e42_135, e42_138, e42_139, e42_140, e42_143, e42_146, e42_147, e42_148, e42_151, e42_154, e42_155, e42_156, e42_159, e42_162, e42_163, e42_164, e42_167, e42_170, e42_171, e42_173, zgF, zgA, zgR, zisO, zpush, zopt_some, ↓reduceIte, List.getElem?_cons_succ, List.getElem?_cons_zero, beq_self_eq_true, true_and, and_true, Bool.true_and, Bool.and_true, Bool.false_and, Bool.and_false, nI_1, not_true_eq_false, not_false_eq_true, vp_narI, hD', x0]
  · have d := fun {l0 : Nat} {l1 : Int32} {X : zX} {Q : Option Value → zX → Prop} => @e42_1_d l0 l1 w X Q ho
    have eq : qCt a l n w = -2 := by
      unfold qCt
      rw [if_neg (show ¬ w = 0 from zsw_ne (k := 0) (by decide) (by decide) ho), if_neg (show ¬ w = 1 from zsw_ne (k := 1) (by decide) (by decide) ho), if_neg (show ¬ w = 2 from zsw_ne (k := 2) (by decide) (by decide) ho), if_neg (show ¬ w = 3 from zsw_ne (k := 3) (by decide) (by decide) ho), if_neg (show ¬ w = 4 from zsw_ne (k := 4) (by decide) (by decide) ho), if_neg (show ¬ w = 5 from zsw_ne (k := 5) (by decide) (by decide) ho), if_neg (show ¬ w = 6 from zsw_ne (k := 6) (by decide) (by decide) ho), if_neg (show ¬ w = 7 from zsw_ne (k := 7) (by decide) (by decide) ho), if_neg (show ¬ w = 8 from zsw_ne (k := 8) (by decide) (by decide) ho), if_neg (show ¬ w = 9 from zsw_ne (k := 9) (by decide) (by decide) ho), if_neg (show ¬ w = 10 from zsw_ne (k := 10) (by decide) (by decide) ho), if_neg (show ¬ w = 11 from zsw_ne (k := 11) (by decide) (by decide) ho)]
    simp only [e42_0, d, e42_171, e42_173, eq]
end ZC
end
