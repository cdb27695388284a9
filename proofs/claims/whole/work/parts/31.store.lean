/-! building, keeping and dropping in the class -/
section
set_option maxRecDepth 100000
section ZC
variable {h : List zC} {z : Nat × (Nat × (Nat → Int32))} {a : Nat → Int32} {Q : Option Value → zX → Prop} {P T : Nat}
theorem c_D_layP (hg : zG a) (hK : zKp h P T a) (hQ : ∀ h' : List zC, zFr zWr h h' → zKo h' P T a → Q none (h', z)) : Ev 77 0 [.ref 0, .ref P, zU] [] (h, z) Q := by
  obtain ⟨hPT, hD, hS, ⟨ln, dr, hW, hC⟩, ⟨cf, sf, lf, t, hL⟩, ⟨cf', sf', lf', t', hT⟩⟩ := hK
  have pt : (P = 82 ∧ T = 86) ∨ (P = 86 ∧ T = 82) := hPT
  refine c_D_layAll hg (by omega) hD hS hW hC hL (fun h1 ln1 dr1 F1 W1 C1 L1 => hQ h1 (F1.mono (fun j h => by unfold zWr; omega)) ⟨⟨hPT, F1.at hD (by omega), hS.fr (fun j h1 h2 => F1.2 j (by omega)), ⟨ln1, dr1, W1, C1⟩, ?_, hT.ex (fun j h1 h2 => F1.2 j (by omega))⟩, L1⟩)
  obtain ⟨c, s, l, t, q1, q2⟩ := L1
  exact ⟨c, s, l, t, q1⟩
theorem c_D_keepObject {o : Int32} (hg : zG a) (hK : zKo h P T a) (hQ : ∀ (h' : List zC) (P' T' : Nat), zFr zWr h h' → zKo h' P' T' (chK a o).2 → Q (some (.int (chK a o).1)) (h', z)) :
    Ev 69 0 [.ref 0, .int o, zU] [] (h, z) Q := by
  have hD' : h[0]? = some (zob 5 [.ref 1, .ref 10, .ref 75, .ref 76, .ref 77, .ref 80, .ref P, .ref T]) := hK.1.2.1
  have hS := hK.1.2.2.1
  have s0 := hS.1
  have c2 := fun (Q : Option Value → zX → Prop) => c_S_rowOf (s := o) (z := z) (Q := Q) hS hg
  have e0 : fndF (fun i => a (41 + i) == o) (gN a 3) 0 = fnd a o := rfl
  rw [e0] at c2
  obtain ⟨g3, b3⟩ := hg.2.2.2.1
  unfold chK at hQ
  by_cases hz : zinb o 10000 = true
  · rw [if_pos hz] at hQ
    obtain ⟨q, hq, rfl⟩ := zinb_ex hz (by decide)
    have a1 : ¬ nI q < 0 := nI_pos (by omega)
    have a2 : nI q ≤ 9999 := Int32.not_lt.mp (nI_nlt (a := 9999) (show q ≤ 9999 by omega) (by omega))
    by_cases h4 : gN a 3 < 40
    · rw [if_pos h4] at hQ
      have a3 : a 3 < 40 := by rw [g3]; exact nI_lt (b := 40) h4 (by decide)
      by_cases h6 : fnd a (nI q) = -6
      · rw [if_pos h6] at hQ
        simp only [e69_0, e69_1, e69_4, e69_5, e69_8, e69_11, e69_13, e69_14, e69_15, e69_18, e69_21, e69_23, e69_26, e69_28, e69_29, e69_30, e69_33, e69_34, e69_37, e69_39, e69_42, e69_44, e69_45, e69_46, e69_49, e69_50, e69_53, e69_54, e69_55, e69_56, e69_59, e69_62, e69_63, e69_66, e69_69, e69_70, e69_71, zgF, zgA, zgR, zisO, zpush, zopt_some, ↓reduceIte, List.getElem?_cons_succ, List.getElem?_cons_zero, beq_self_eq_true, true_and, and_true, Bool.true_and, Bool.and_true, Bool.false_and, Bool.and_false, nI_1, not_true_eq_false, not_false_eq_true, vp_narI, hD', s0, c2, a1, a2, a3, h6]
        refine c_S_insert hg h4 hS (fun h1 F1 S1 => ?_)
        obtain ⟨k1, -⟩ := hK.st F1 S1
        have gb : zG (insA a (nI q)) := zG_insA hg h4 (by omega)
        have D1 : h1[0]? = some (zob 5 [.ref 1, .ref 10, .ref 75, .ref 76, .ref 77, .ref 80, .ref P, .ref T]) := k1.2.1
        simp only [e69_0, e69_1, e69_4, e69_5, e69_8, e69_11, e69_13, e69_14, e69_15, e69_18, e69_21, e69_23, e69_26, e69_28, e69_29, e69_30, e69_33, e69_34, e69_37, e69_39, e69_42, e69_44, e69_45, e69_46, e69_49, e69_50, e69_53, e69_54, e69_55, e69_56, e69_59, e69_62, e69_63, e69_66, e69_69, e69_70, e69_71, zgF, zgA, zgR, zisO, zpush, zopt_some, ↓reduceIte, List.getElem?_cons_succ, List.getElem?_cons_zero, beq_self_eq_true, true_and, and_true, Bool.true_and, Bool.and_true, Bool.false_and, Bool.and_false, nI_1, not_true_eq_false, not_false_eq_true, vp_narI, D1]
        refine c_D_layP gb k1 (fun h2 F2 K2 => ?_)
        have D2 : h2[0]? = some (zob 5 [.ref 1, .ref 10, .ref 75, .ref 76, .ref 77, .ref 80, .ref P, .ref T]) := K2.1.2.1
        obtain ⟨cf, sf, lf, t, L2, A2⟩ := id K2.2
        have hp := ipos_le (fun i => a (41 + i)) (nI q) (gN a 3)
        have e3 := gN_insA3 (o := nI q) h4
        have e1 : zinb (nI (ipos (fun i => a (41 + i)) (nI q) (gN a 3))) 41 = true := zinb_nI (by omega) (by decide)
        have e2 : (nI (ipos (fun i => a (41 + i)) (nI q) (gN a 3))).toNatClampNeg = iposA a (nI q) := nI_clamp (by omega)
        have e5 := (A2.1 (iposA a (nI q)) (by rw [e3]; unfold iposA; omega)).1
        simp only [e69_0, e69_1, e69_4, e69_5, e69_8, e69_11, e69_13, e69_14, e69_15, e69_18, e69_21, e69_23, e69_26, e69_28, e69_29, e69_30, e69_33, e69_34, e69_37, e69_39, e69_42, e69_44, e69_45, e69_46, e69_49, e69_50, e69_53, e69_54, e69_55, e69_56, e69_59, e69_62, e69_63, e69_66, e69_69, e69_70, e69_71, zgF, zgA, zgR, zisO, zpush, zopt_some, ↓reduceIte, List.getElem?_cons_succ, List.getElem?_cons_zero, beq_self_eq_true, true_and, and_true, Bool.true_and, Bool.and_true, Bool.false_and, Bool.and_false, nI_1, not_true_eq_false, not_false_eq_true, vp_narI, D2, L2.1, L2.2.1, e1, e2, e5]
        exact hQ h2 P T ((F1.mono (fun j h => by unfold zWr; omega)).tr F2) K2
      · rw [if_neg h6] at hQ
        simp only [e69_0, e69_1, e69_4, e69_5, e69_8, e69_11, e69_13, e69_14, e69_15, e69_18, e69_21, e69_23, e69_26, e69_28, e69_29, e69_30, e69_33, e69_34, e69_37, e69_39, e69_42, e69_44, e69_45, e69_46, e69_49, e69_50, e69_53, e69_54, e69_55, e69_56, e69_59, e69_62, e69_63, e69_66, e69_69, e69_70, e69_71, zgF, zgA, zgR, zisO, zpush, zopt_some, ↓reduceIte, List.getElem?_cons_succ, List.getElem?_cons_zero, beq_self_eq_true, true_and, and_true, Bool.true_and, Bool.and_true, Bool.false_and, Bool.and_false, nI_1, not_true_eq_false, not_false_eq_true, vp_narI, hD', s0, c2, a1, a2, a3, h6]
        exact hQ h P T zFr.rf hK
    · rw [if_neg h4] at hQ
      have a3 : ¬ a 3 < 40 := by rw [g3]; exact nI_nlt (b := 40) (by omega) (by omega)
      simp only [e69_0, e69_1, e69_4, e69_5, e69_8, e69_11, e69_13, e69_14, e69_15, e69_18, e69_21, e69_23, e69_26, e69_28, e69_29, e69_30, e69_33, e69_34, e69_37, e69_39, e69_42, e69_44, e69_45, e69_46, e69_49, e69_50, e69_53, e69_54, e69_55, e69_56, e69_59, e69_62, e69_63, e69_66, e69_69, e69_70, e69_71, zgF, zgA, zgR, zisO, zpush, zopt_some, ↓reduceIte, List.getElem?_cons_succ, List.getElem?_cons_zero, beq_self_eq_true, true_and, and_true, Bool.true_and, Bool.and_true, Bool.false_and, Bool.and_false, nI_1, not_true_eq_false, not_false_eq_true, vp_narI, hD', s0, a1, a2, a3]
      exact hQ h P T zFr.rf hK
  · rw [if_neg hz] at hQ
    rw [Bool.not_eq_true] at hz
    rcases (zinb_no (by decide)).mp hz with h3 | h3
    · simp only [e69_0, e69_1, e69_4, e69_5, e69_8, e69_11, e69_13, e69_14, e69_15, e69_18, e69_21, e69_23, e69_26, e69_28, e69_29, e69_30, e69_33, e69_34, e69_37, e69_39, e69_42, e69_44, e69_45, e69_46, e69_49, e69_50, e69_53, e69_54, e69_55, e69_56, e69_59, e69_62, e69_63, e69_66, e69_69, e69_70, e69_71, zgF, zgA, zgR, zisO, zpush, zopt_some, ↓reduceIte, List.getElem?_cons_succ, List.getElem?_cons_zero, beq_self_eq_true, true_and, and_true, Bool.true_and, Bool.and_true, Bool.false_and, Bool.and_false, nI_1, not_true_eq_false, not_false_eq_true, vp_narI, h3]
      exact hQ h P T zFr.rf hK
    · have a1 : ¬ o < 0 := Int32.not_lt.mpr (Int32.le_trans (by decide) h3)
      have a2 : ¬ o ≤ 9999 := Int32.not_le.mpr (Int32.lt_of_lt_of_le (by decide) h3)
      simp only [e69_0, e69_1, e69_4, e69_5, e69_8, e69_11, e69_13, e69_14, e69_15, e69_18, e69_21, e69_23, e69_26, e69_28, e69_29, e69_30, e69_33, e69_34, e69_37, e69_39, e69_42, e69_44, e69_45, e69_46, e69_49, e69_50, e69_53, e69_54, e69_55, e69_56, e69_59, e69_62, e69_63, e69_66, e69_69, e69_70, e69_71, zgF, zgA, zgR, zisO, zpush, zopt_some, ↓reduceIte, List.getElem?_cons_succ, List.getElem?_cons_zero, beq_self_eq_true, true_and, and_true, Bool.true_and, Bool.and_true, Bool.false_and, Bool.and_false, nI_1, not_true_eq_false, not_false_eq_true, vp_narI, a1, a2]
      exact hQ h P T zFr.rf hK
theorem c_D_dropObject {o : Int32} (hg : zG a) (hK : zKo h P T a) (hQ : ∀ (h' : List zC) (P' T' : Nat), zFr zWr h h' → zKo h' P' T' (chX a o).2 → Q (some (.int (chX a o).1)) (h', z)) :
    Ev 70 0 [.ref 0, .int o, zU] [] (h, z) Q := by
  have hD' : h[0]? = some (zob 5 [.ref 1, .ref 10, .ref 75, .ref 76, .ref 77, .ref 80, .ref P, .ref T]) := hK.1.2.1
  have hS := hK.1.2.2.1
  have s0 := hS.1
  have c2 := fun (Q : Option Value → zX → Prop) => c_S_rowOf (s := o) (z := z) (Q := Q) hS hg
  have e0 : fndF (fun i => a (41 + i) == o) (gN a 3) 0 = fnd a o := rfl
  rw [e0] at c2
  obtain ⟨g3, b3⟩ := hg.2.2.2.1
  unfold chX at hQ
  by_cases h6 : fnd a o = -6
  · rw [if_pos h6] at hQ
    simp only [e70_0, e70_1, e70_4, e70_5, e70_8, e70_9, e70_10, e70_12, e70_15, e70_16, e70_17, e70_18, e70_21, e70_22, e70_25, e70_26, e70_27, e70_30, e70_33, e70_34, e70_37, e70_40, zgF, zgA, zgR, zisO, zpush, zopt_some, ↓reduceIte, List.getElem?_cons_succ, List.getElem?_cons_zero, beq_self_eq_true, true_and, and_true, Bool.true_and, Bool.and_true, Bool.false_and, Bool.and_false, nI_1, not_true_eq_false, not_false_eq_true, vp_narI, hD', s0, c2, h6]
    exact hQ h P T zFr.rf hK
  · rw [if_neg h6] at hQ
    obtain ⟨q, hq, -, h3, h4⟩ := fnd_ok hg h6
    rw [h4] at hQ
    have h7 : ¬ nI q = -6 := nI_ne6 (by omega)
    simp only [e70_0, e70_1, e70_4, e70_5, e70_8, e70_9, e70_10, e70_12, e70_15, e70_16, e70_17, e70_18, e70_21, e70_22, e70_25, e70_26, e70_27, e70_30, e70_33, e70_34, e70_37, e70_40, zgF, zgA, zgR, zisO, zpush, zopt_some, ↓reduceIte, List.getElem?_cons_succ, List.getElem?_cons_zero, beq_self_eq_true, true_and, and_true, Bool.true_and, Bool.and_true, Bool.false_and, Bool.and_false, nI_1, not_true_eq_false, not_false_eq_true, vp_narI, hD', s0, c2, h3, h7]
    refine c_S_remove hg hq hS (fun h1 F1 S1 => ?_)
    obtain ⟨k1, -⟩ := hK.st F1 S1
    have D1 : h1[0]? = some (zob 5 [.ref 1, .ref 10, .ref 75, .ref 76, .ref 77, .ref 80, .ref P, .ref T]) := k1.2.1
    simp only [e70_0, e70_1, e70_4, e70_5, e70_8, e70_9, e70_10, e70_12, e70_15, e70_16, e70_17, e70_18, e70_21, e70_22, e70_25, e70_26, e70_27, e70_30, e70_33, e70_34, e70_37, e70_40, zgF, zgA, zgR, zisO, zpush, zopt_some, ↓reduceIte, List.getElem?_cons_succ, List.getElem?_cons_zero, beq_self_eq_true, true_and, and_true, Bool.true_and, Bool.and_true, Bool.false_and, Bool.and_false, nI_1, not_true_eq_false, not_false_eq_true, vp_narI, D1]
    refine c_D_layP (zG_remA hg) k1 (fun h2 F2 K2 => ?_)
    have D2 : h2[0]? = some (zob 5 [.ref 1, .ref 10, .ref 75, .ref 76, .ref 77, .ref 80, .ref P, .ref T]) := K2.1.2.1
    have s2 := K2.1.2.2.1.1
    simp only [e70_0, e70_1, e70_4, e70_5, e70_8, e70_9, e70_10, e70_12, e70_15, e70_16, e70_17, e70_18, e70_21, e70_22, e70_25, e70_26, e70_27, e70_30, e70_33, e70_34, e70_37, e70_40, zgF, zgA, zgR, zisO, zpush, zopt_some, ↓reduceIte, List.getElem?_cons_succ, List.getElem?_cons_zero, beq_self_eq_true, true_and, and_true, Bool.true_and, Bool.and_true, Bool.false_and, Bool.and_false, nI_1, not_true_eq_false, not_false_eq_true, vp_narI, D2, s2, remA_3]
    exact hQ h2 P T ((F1.mono (fun j h => by unfold zWr; omega)).tr F2) K2
theorem c_D_buildServer {r w : Int32} (hg : zG a) (hK : zKo h P T a) (hQ : ∀ (h' : List zC) (P' T' : Nat), zFr zWr h h' → zKo h' P' T' (chB a r w).2 → Q (some (.int (chB a r w).1)) (h', z)) :
    Ev 65 0 [.ref 0, .int r, .int w, zU] [] (h, z) Q := by
  have hD' : h[0]? = some (zob 5 [.ref 1, .ref 10, .ref 75, .ref 76, .ref 77, .ref 80, .ref P, .ref T]) := hK.1.2.1
  have hS := hK.1.2.2.1
  have s0 := hS.1
  obtain ⟨g2, b2⟩ := hg.2.2.1
  have n1 : ¬ (1 : Int32) = 0 := by decide
  unfold chB at hQ
  by_cases h1 : zinb r 6 = true
  · by_cases h2 : zinb w 17 = true
    · rw [if_pos ⟨h1, h2⟩] at hQ
      by_cases h3 : gN a 2 < 12
      · rw [if_pos h3] at hQ
        have a3 : a 2 < 12 := by rw [g2]; exact nI_lt (b := 12) h3 (by decide)
        obtain ⟨j, hj, rfl⟩ := zinb_ex h1 (by decide)
        obtain ⟨q, hq, rfl⟩ := zinb_ex h2 (by decide)
        obtain ⟨f1, f2, f3, x1, x2, x3, hS'⟩ := hS.bld hg h3 (r := nI j) (w := nI q)
        have e1 : zinb (a 2) 12 = true := by rw [g2]; exact zinb_nI h3 (by decide)
        have e2 : (a 2).toNatClampNeg = gN a 2 := rfl
        have e3 : a 2 + 1 = nI (gN a 2 + 1) := by rw [g2, nI_1]
        have F : zFr (fun j => 1 ≤ j ∧ j ≤ 9) h ((((h.set (1 + 1) (zar .int 12 (upd f1 (gN a 2) (nI j)))).set (1 + 2) (zar .int 12 (upd f2 (gN a 2) (nI q)))).set (1 + 3) (zar .boolean 12 (upd f3 (gN a 2) 0))).set 1 (zob 3 [.int (a 0), .int (a 1), .int (nI (gN a 2 + 1)), .ref (1 + 1), .ref (1 + 2), .ref (1 + 3), .int (a 3), .ref (1 + 4), .ref (1 + 5), .int (a 4), .ref (1 + 6), .ref (1 + 7), .ref (1 + 8)])) :=
          (((zFr.set ⟨by omega, by omega⟩).tr (zFr.set ⟨by omega, by omega⟩)).tr (zFr.set ⟨by omega, by omega⟩)).tr (zFr.set ⟨by omega, by omega⟩)
        simp only [e65_0, e65_1, e65_4, e65_7, e65_8, e65_11, e65_14, e65_16, e65_17, e65_18, e65_21, e65_24, e65_26, e65_29, e65_31, e65_32, e65_33, e65_36, e65_39, e65_40, e65_41, e65_44, e65_47, e65_48, e65_49, e65_51, e65_54, e65_57, e65_58, e65_59, e65_61, e65_64, e65_67, e65_68, e65_69, e65_71, e65_74, e65_75, e65_78, e65_79, e65_80, e65_84, e65_87, e65_88, e65_89, zgF, zgA, zgR, zisO, zpush, zopt_some, ↓reduceIte, List.getElem?_cons_succ, List.getElem?_cons_zero, beq_self_eq_true, true_and, and_true, Bool.true_and, Bool.and_true, Bool.false_and, Bool.and_false, nI_1, not_true_eq_false, not_false_eq_true, vp_narI, hD', s0, c_D_isWeight, c_D_isRack, h1, h2, zb_t, n1, a3, x1, e1, e2]
        have y0 := zset_ne (k := 1 + 1) (c := zar .int 12 (upd f1 (gN a 2) (nI j))) hD' (by omega)
        have y1 := zset_ne (k := 1 + 1) (c := zar .int 12 (upd f1 (gN a 2) (nI j))) s0 (by omega)
        have y3 := zset_ne (k := 1 + 1) (c := zar .int 12 (upd f1 (gN a 2) (nI j))) x2 (by omega)
        have y4 := zset_ne (k := 1 + 1) (c := zar .int 12 (upd f1 (gN a 2) (nI j))) x3 (by omega)
        generalize h.set (1 + 1) (zar .int 12 (upd f1 (gN a 2) (nI j))) = m1 at y0 y1 y3 y4 hS' F ⊢
        simp only [e65_0, e65_1, e65_4, e65_7, e65_8, e65_11, e65_14, e65_16, e65_17, e65_18, e65_21, e65_24, e65_26, e65_29, e65_31, e65_32, e65_33, e65_36, e65_39, e65_40, e65_41, e65_44, e65_47, e65_48, e65_49, e65_50, e65_51, e65_54, e65_57, e65_58, e65_59, e65_61, e65_64, e65_67, e65_68, e65_69, e65_71, e65_74, e65_75, e65_78, e65_79, e65_80, e65_84, e65_87, e65_88, e65_89, zgF, zgA, zgR, zisO, zpush, zopt_some, ↓reduceIte, List.getElem?_cons_succ, List.getElem?_cons_zero, beq_self_eq_true, true_and, and_true, Bool.true_and, Bool.and_true, Bool.false_and, Bool.and_false, nI_1, not_true_eq_false, not_false_eq_true, vp_narI, y0, y1, y3, e1, e2]
        have w0 := zset_ne (k := 1 + 2) (c := zar .int 12 (upd f2 (gN a 2) (nI q))) y0 (by omega)
        have w1 := zset_ne (k := 1 + 2) (c := zar .int 12 (upd f2 (gN a 2) (nI q))) y1 (by omega)
        have w4 := zset_ne (k := 1 + 2) (c := zar .int 12 (upd f2 (gN a 2) (nI q))) y4 (by omega)
        generalize m1.set (1 + 2) (zar .int 12 (upd f2 (gN a 2) (nI q))) = m2 at w0 w1 w4 hS' F ⊢
        simp only [e65_0, e65_1, e65_4, e65_7, e65_8, e65_11, e65_14, e65_16, e65_17, e65_18, e65_21, e65_24, e65_26, e65_29, e65_31, e65_32, e65_33, e65_36, e65_39, e65_40, e65_41, e65_44, e65_47, e65_48, e65_49, e65_50, e65_51, e65_54, e65_57, e65_58, e65_59, e65_60, e65_61, e65_64, e65_67, e65_68, e65_69, e65_71, e65_74, e65_75, e65_78, e65_79, e65_80, e65_84, e65_87, e65_88, e65_89, zgF, zgA, zgR, zisO, zpush, zopt_some, ↓reduceIte, List.getElem?_cons_succ, List.getElem?_cons_zero, beq_self_eq_true, true_and, and_true, Bool.true_and, Bool.and_true, Bool.false_and, Bool.and_false, nI_1, not_true_eq_false, not_false_eq_true, vp_narI, w0, w1, w4, e1, e2, (show vp_nar .boolean (0 : Int32) = 0 by decide)]
        have v0 := zset_ne (k := 1 + 3) (c := zar .boolean 12 (upd f3 (gN a 2) 0)) w0 (by omega)
        have v1 := zset_ne (k := 1 + 3) (c := zar .boolean 12 (upd f3 (gN a 2) 0)) w1 (by omega)
        generalize m2.set (1 + 3) (zar .boolean 12 (upd f3 (gN a 2) 0)) = m3 at v0 v1 hS' F ⊢
        simp only [e65_0, e65_1, e65_4, e65_7, e65_8, e65_11, e65_14, e65_16, e65_17, e65_18, e65_21, e65_24, e65_26, e65_29, e65_31, e65_32, e65_33, e65_36, e65_39, e65_40, e65_41, e65_44, e65_47, e65_48, e65_49, e65_50, e65_51, e65_54, e65_57, e65_58, e65_59, e65_60, e65_61, e65_64, e65_67, e65_68, e65_69, e65_70, e65_71, e65_74, e65_75, e65_78, e65_79, e65_80, e65_84, e65_87, e65_88, e65_89, zgF, zgA, zgR, zisO, zpush, zopt_some, ↓reduceIte, List.getElem?_cons_succ, List.getElem?_cons_zero, beq_self_eq_true, true_and, and_true, Bool.true_and, Bool.and_true, Bool.false_and, Bool.and_false, nI_1, not_true_eq_false, not_false_eq_true, vp_narI, v0, v1, e3, zpF, List.length_cons, List.length_nil]
        simp only [Nat.reduceLT, and_self, List.set_cons_succ, List.set_cons_zero, ↓reduceIte, zopt_some, (show (0 + 1 + 1 + 1 + 1 + 1 + 1 + 1 + 1 + 1 + 1 + 1 + 1 + 1 : Nat) = 13 from rfl)]
        rw [e65_83, e65_84]
        refine ⟨by unfold zisO; rw [zset_ne v0 (by decide)]; rfl, ?_⟩
        refine c_D_fmA hg (zG_bld hg h3 hj (by omega)) (by unfold bldA; rw [upd_n (by omega), upd_n (by omega), upd_n (by omega), upd_n (by omega)]) hK F hS' (fun h' P' T' F' K' => ?_)
        simp only [e65_0, e65_1, e65_4, e65_7, e65_8, e65_11, e65_14, e65_16, e65_17, e65_18, e65_21, e65_24, e65_26, e65_29, e65_31, e65_32, e65_33, e65_36, e65_39, e65_40, e65_41, e65_44, e65_47, e65_48, e65_49, e65_50, e65_51, e65_54, e65_57, e65_58, e65_59, e65_60, e65_61, e65_64, e65_67, e65_68, e65_69, e65_70, e65_71, e65_74, e65_75, e65_78, e65_79, e65_80, e65_83, e65_84, e65_87, e65_88, e65_89, zgF, zgA, zgR, zisO, zpush, zopt_some, ↓reduceIte, List.getElem?_cons_succ, List.getElem?_cons_zero, beq_self_eq_true, true_and, and_true, Bool.true_and, Bool.and_true, Bool.false_and, Bool.and_false, nI_1, not_true_eq_false, not_false_eq_true, vp_narI]
        rw [g2]
        exact hQ h' P' T' F' K'
      · rw [if_neg h3] at hQ
        have a3 : ¬ a 2 < 12 := by rw [g2]; exact nI_nlt (b := 12) (by omega) (by omega)
        simp only [e65_0, e65_1, e65_4, e65_7, e65_8, e65_11, e65_14, e65_16, e65_17, e65_18, e65_21, e65_24, e65_26, e65_29, e65_31, e65_32, e65_33, e65_36, e65_39, e65_40, e65_41, e65_44, e65_47, e65_48, e65_49, e65_50, e65_51, e65_54, e65_57, e65_58, e65_59, e65_60, e65_61, e65_64, e65_67, e65_68, e65_69, e65_70, e65_71, e65_74, e65_75, e65_78, e65_79, e65_80, e65_83, e65_84, e65_87, e65_88, e65_89, zgF, zgA, zgR, zisO, zpush, zopt_some, ↓reduceIte, List.getElem?_cons_succ, List.getElem?_cons_zero, beq_self_eq_true, true_and, and_true, Bool.true_and, Bool.and_true, Bool.false_and, Bool.and_false, nI_1, not_true_eq_false, not_false_eq_true, vp_narI, hD', s0, c_D_isWeight, c_D_isRack, h1, h2, zb_t, n1, a3]
        exact hQ h P T zFr.rf hK
    · rw [if_neg (fun h => h2 h.2)] at hQ
      rw [Bool.not_eq_true] at h2
      simp only [e65_0, e65_1, e65_4, e65_7, e65_8, e65_11, e65_14, e65_16, e65_17, e65_18, e65_21, e65_24, e65_26, e65_29, e65_31, e65_32, e65_33, e65_36, e65_39, e65_40, e65_41, e65_44, e65_47, e65_48, e65_49, e65_50, e65_51, e65_54, e65_57, e65_58, e65_59, e65_60, e65_61, e65_64, e65_67, e65_68, e65_69, e65_70, e65_71, e65_74, e65_75, e65_78, e65_79, e65_80, e65_83, e65_84, e65_87, e65_88, e65_89, zgF, zgA, zgR, zisO, zpush, zopt_some, ↓reduceIte, List.getElem?_cons_succ, List.getElem?_cons_zero, beq_self_eq_true, true_and, and_true, Bool.true_and, Bool.and_true, Bool.false_and, Bool.and_false, nI_1, not_true_eq_false, not_false_eq_true, vp_narI, c_D_isWeight, c_D_isRack, h1, h2, zb_t, zb_f, n1]
      exact hQ h P T zFr.rf hK
  · rw [if_neg (fun h => h1 h.1)] at hQ
    rw [Bool.not_eq_true] at h1
    simp only [e65_0, e65_1, e65_4, e65_7, e65_8, e65_11, e65_14, e65_16, e65_17, e65_18, e65_21, e65_24, e65_26, e65_29, e65_31, e65_32, e65_33, e65_36, e65_39, e65_40, e65_41, e65_44, e65_47, e65_48, e65_49, e65_50, e65_51, e65_54, e65_57, e65_58, e65_59, e65_60, e65_61, e65_64, e65_67, e65_68, e65_69, e65_70, e65_71, e65_74, e65_75, e65_78, e65_79, e65_80, e65_83, e65_84, e65_87, e65_88, e65_89, zgF, zgA, zgR, zisO, zpush, zopt_some, ↓reduceIte, List.getElem?_cons_succ, List.getElem?_cons_zero, beq_self_eq_true, true_and, and_true, Bool.true_and, Bool.and_true, Bool.false_and, Bool.and_false, nI_1, not_true_eq_false, not_false_eq_true, vp_narI, c_D_isWeight, c_D_isRack, h1, zb_t, zb_f, n1]
    exact hQ h P T zFr.rf hK
end ZC
end
