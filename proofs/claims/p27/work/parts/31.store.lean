/-! building, keeping and dropping in the class -/
section
set_option maxRecDepth 100000
section ZC
variable {h : List zC} {z : Nat × (Nat × (Nat → Int32))} {a : Nat → Int32} {Q : Option Value → zX → Prop} {P T : Nat}
theorem c_D_layP (hg : zG a) (hK : zKp h P T a) (hQ : ∀ h' : List zC, zFr zWr h h' → zKo h' P T a → Q none (h', z)) : Ev 57 0 [.ref 0, .ref P, zU] [] (h, z) Q := by
  obtain ⟨hPT, hD, hS, ⟨ln, dr, hW, hC⟩, ⟨cf, sf, lf, t, hL⟩, ⟨cf', sf', lf', t', hT⟩⟩ := hK
  have pt : (P = 82 ∧ T = 86) ∨ (P = 86 ∧ T = 82) := hPT
  refine c_D_layAll hg (by omega) hD hS hW hC hL (fun h1 ln1 dr1 F1 W1 C1 L1 => hQ h1 (F1.mono (fun j h => by unfold zWr; omega)) ⟨⟨hPT, F1.at hD (by omega), hS.fr (fun j h1 h2 => F1.2 j (by omega)), ⟨ln1, dr1, W1, C1⟩, ?_, hT.ex (fun j h1 h2 => F1.2 j (by omega))⟩, L1⟩)
  obtain ⟨c, s, l, t, q1, q2⟩ := L1
  exact ⟨c, s, l, t, q1⟩
theorem c_D_keepObject {o : Int32} (hg : zG a) (hK : zKo h P T a) (hQ : ∀ (h' : List zC) (P' T' : Nat), zFr zWr h h' → zKo h' P' T' (chK a o).2 → Q (some (.int (chK a o).1)) (h', z)) :
    Ev 51 0 [.ref 0, .int o, zU] [] (h, z) Q := by
  have hD' : h[0]? = some (zob 5 [.ref 1, .ref 10, .ref 75, .ref 76, .ref 77, .ref 80, .ref P, .ref T]) := hK.1.2.1
  have hS := hK.1.2.2.1
  have s0 := hS.1
  have c2 := fun (Q : Option Value → zX → Prop) => c_S_rowOf (s := o) (z := z) (Q := Q) hS hg
  have e0 : fndF (fun i => a (41 + i) == o) (gN a 3) 0 = fnd a o := rfl
  rw [e0] at c2
  obtain ⟨g3, b3⟩ := hg.2.2.2.1
  unfold chK at hQ
  by_cases hz : zinb o 10000 = true
  · rw [if_pos hz] at hQ
    obtain ⟨q, hq, rfl⟩ := zinb_ex hz (by decide)
    have a1 : ¬ nI q < 0 := nI_pos (by omega)
    have a2 : nI q ≤ 9999 := Int32.not_lt.mp (nI_nlt (a := 9999) (show q ≤ 9999 by omega) (by omega))
    by_cases h4 : gN a 3 < 40
    · rw [if_pos h4] at hQ
      have a3 : a 3 < 40 := by rw [g3]; exact nI_lt (b := 40) h4 (by decide)
      by_cases h6 : fnd a (nI q) = -6
      · rw [if_pos h6] at hQ
        simp only [e51_0, e51_1, e51_4, e51_5, e51_8, e51_11, e51_13, e51_14, e51_15, e51_18, e51_21, e51_23, e51_26, e51_28, e51_29, e51_30, e51_33, e51_34, e51_37, e51_39, e51_42, e51_44, e51_45, e51_46, e51_49, e51_50, e51_53, e51_54, e51_55, e51_56, e51_59, e51_62, e51_63, e51_66, e51_69, e51_70, e51_71, zgF, zgA, zgR, zisO, zpush, zopt_some, ↓reduceIte, List.getElem?_cons_succ, List.getElem?_cons_zero, beq_self_eq_true, true_and, and_true, Bool.true_and, Bool.and_true, Bool.false_and, Bool.and_false, nI_1, not_true_eq_false, not_false_eq_true, vp_narI, hD', s0, c2, a1, a2, a3, h6]
        refine c_S_insert hg h4 hS (fun h1 F1 S1 => ?_)
        obtain ⟨k1, -⟩ := hK.st F1 S1
        have gb : zG (insA a (nI q)) := zG_insA hg h4 (by omega)
        have D1 : h1[0]? = some (zob 5 [.ref 1, .ref 10, .ref 75, .ref 76, .ref 77, .ref 80, .ref P, .ref T]) := k1.2.1
        simp only [e51_0, e51_1, e51_4, e51_5, e51_8, e51_11, e51_13, e51_14, e51_15, e51_18, e51_21, e51_23, e51_26, e51_28, e51_29, e51_30, e51_33, e51_34, e51_37, e51_39, e51_42, e51_44, e51_45, e51_46, e51_49, e51_50, e51_53, e51_54, e51_55, e51_56, e51_59, e51_62, e51_63, e51_66, e51_69, e51_70, e51_71, zgF, zgA, zgR, zisO, zpush, zopt_some, ↓reduceIte, List.getElem?_cons_succ, List.getElem?_cons_zero, beq_self_eq_true, true_and, and_true, Bool.true_and, Bool.and_true, Bool.false_and, Bool.and_false, nI_1, not_true_eq_false, not_false_eq_true, vp_narI, D1]
        refine c_D_layP gb k1 (fun h2 F2 K2 => ?_)
        have D2 : h2[0]? = some (zob 5 [.ref 1, .ref 10, .ref 75, .ref 76, .ref 77, .ref 80, .ref P, .ref T]) := K2.1.2.1
        obtain ⟨cf, sf, lf, t, L2, A2⟩ := id K2.2
        have hp := ipos_le (fun i => a (41 + i)) (nI q) (gN a 3)
        have e3 := gN_insA3 (o := nI q) h4
        have e1 : zinb (nI (ipos (fun i => a (41 + i)) (nI q) (gN a 3))) 41 = true := zinb_nI (by omega) (by decide)
        have e2 : (nI (ipos (fun i => a (41 + i)) (nI q) (gN a 3))).toNatClampNeg = iposA a (nI q) := nI_clamp (by omega)
        have e5 := (A2.1 (iposA a (nI q)) (by rw [e3]; unfold iposA; omega)).1
        simp only [e51_0, e51_1, e51_4, e51_5, e51_8, e51_11, e51_13, e51_14, e51_15, e51_18, e51_21, e51_23, e51_26, e51_28, e51_29, e51_30, e51_33, e51_34, e51_37, e51_39, e51_42, e51_44, e51_45, e51_46, e51_49, e51_50, e51_53, e51_54, e51_55, e51_56, e51_59, e51_62, e51_63, e51_66, e51_69, e51_70, e51_71, zgF, zgA, zgR, zisO, zpush, zopt_some, ↓reduceIte, List.getElem?_cons_succ, List.getElem?_cons_zero, beq_self_eq_true, true_and, and_true, Bool.true_and, Bool.and_true, Bool.false_and, Bool.and_false, nI_1, not_true_eq_false, not_false_eq_true, vp_narI, D2, L2.1, L2.2.1, e1, e2, e5]
        exact hQ h2 P T ((F1.mono (fun j h => by unfold zWr; omega)).tr F2) K2
      · rw [if_neg h6] at hQ
        simp only [e51_0, e51_1, e51_4, e51_5, e51_8, e51_11, e51_13, e51_14, e51_15, e51_18, e51_21, e51_23, e51_26, e51_28, e51_29, e51_30, e51_33, e51_34, e51_37, e51_39, e51_42, e51_44, e51_45, e51_46, e51_49, e51_50, e51_53, e51_54, e51_55, e51_56, e51_59, e51_62, e51_63, e51_66, e51_69, e51_70, e51_71, zgF, zgA, zgR, zisO, zpush, zopt_some, ↓reduceIte, List.getElem?_cons_succ, List.getElem?_cons_zero, beq_self_eq_true, true_and, and_true, Bool.true_and, Bool.and_true, Bool.false_and, Bool.and_false, nI_1, not_true_eq_false, not_false_eq_true, vp_narI, hD', s0, c2, a1, a2, a3, h6]
        exact hQ h P T zFr.rf hK
    · rw [if_neg h4] at hQ
      have a3 : ¬ a 3 < 40 := by rw [g3]; exact nI_nlt (b := 40) (by omega) (by omega)
      simp only [e51_0, e51_1, e51_4, e51_5, e51_8, e51_11, e51_13, e51_14, e51_15, e51_18, e51_21, e51_23, e51_26, e51_28, e51_29, e51_30, e51_33, e51_34, e51_37, e51_39, e51_42, e51_44, e51_45, e51_46, e51_49, e51_50, e51_53, e51_54, e51_55, e51_56, e51_59, e51_62, e51_63, e51_66, e51_69, e51_70, e51_71, zgF, zgA, zgR, zisO, zpush, zopt_some, ↓reduceIte, List.getElem?_cons_succ, List.getElem?_cons_zero, beq_self_eq_true, true_and, and_true, Bool.true_and, Bool.and_true, Bool.false_and, Bool.and_false, nI_1, not_true_eq_false, not_false_eq_true, vp_narI, hD', s0, a1, a2, a3]
      exact hQ h P T zFr.rf hK
  · rw [if_neg hz] at hQ
    rw [Bool.not_eq_true] at hz
    rcases (zinb_no (by decide)).mp hz with h3 | h3
    · simp only [e51_0, e51_1, e51_4, e51_5, e51_8, e51_11, e51_13, e51_14, e51_15, e51_18, e51_21, e51_23, e51_26, e51_28, e51_29, e51_30, e51_33, e51_34, e51_37, e51_39, e51_42, e51_44, e51_45, e51_46, e51_49, e51_50, e51_53, e51_54, e51_55, e51_56, e51_59, e51_62, e51_63, e51_66, e51_69, e51_70, e51_71, zgF, zgA, zgR, zisO, zpush, zopt_some, ↓reduceIte, List.getElem?_cons_succ, List.getElem?_cons_zero, beq_self_eq_true, true_and, and_true, Bool.true_and, Bool.and_true, Bool.false_and, Bool.and_false, nI_1, not_true_eq_false, not_false_eq_true, vp_narI, h3]
      exact hQ h P T zFr.rf hK
    · have a1 : ¬ o < 0 := Int32.not_lt.mpr (Int32.le_trans (by decide) h3)
      have a2 : ¬ o ≤ 9999 := Int32.not_le.mpr (Int32.lt_of_lt_of_le (by decide) h3)
      simp only [e51_0, e51_1, e51_4, e51_5, e51_8, e51_11, e51_13, e51_14, e51_15, e51_18, e51_21, e51_23, e51_26, e51_28, e51_29, e51_30, e51_33, e51_34, e51_37, e51_39, e51_42, e51_44, e51_45, e51_46, e51_49, e51_50, e51_53, e51_54, e51_55, e51_56, e51_59, e51_62, e51_63, e51_66, e51_69, e51_70, e51_71, zgF, zgA, zgR, zisO, zpush, zopt_some, ↓reduceIte, List.getElem?_cons_succ, List.getElem?_cons_zero, beq_self_eq_true, true_and, and_true, Bool.true_and, Bool.and_true, Bool.false_and, Bool.and_false, nI_1, not_true_eq_false, not_false_eq_true, vp_narI, a1, a2]
      exact hQ h P T zFr.rf hK
theorem c_D_buildServer {r w : Int32} (hg : zG a) (hK : zKo h P T a) (hQ : ∀ (h' : List zC) (P' T' : Nat), zFr zWr h h' → zKo h' P' T' (chB a r w).2 → Q (some (.int (chB a r w).1)) (h', z)) :
    Ev 47 0 [.ref 0, .int r, .int w, zU] [] (h, z) Q := by
  have hD' : h[0]? = some (zob 5 [.ref 1, .ref 10, .ref 75, .ref 76, .ref 77, .ref 80, .ref P, .ref T]) := hK.1.2.1
  have hS := hK.1.2.2.1
  have s0 := hS.1
  obtain ⟨g2, b2⟩ := hg.2.2.1
  have n1 : ¬ (1 : Int32) = 0 := by decide
  unfold chB at hQ
  by_cases h1 : zinb r 6 = true
  · by_cases h2 : zinb w 17 = true
    · rw [if_pos ⟨h1, h2⟩] at hQ
      by_cases h3 : gN a 2 < 12
      · rw [if_pos h3] at hQ
        have a3 : a 2 < 12 := by rw [g2]; exact nI_lt (b := 12) h3 (by decide)
        obtain ⟨j, hj, rfl⟩ := zinb_ex h1 (by decide)
        obtain ⟨q, hq, rfl⟩ := zinb_ex h2 (by decide)
        obtain ⟨f1, f2, f3, x1, x2, x3, hS'⟩ := hS.bld hg h3 (r := nI j) (w := nI q)
        have e1 : zinb (a 2) 12 = true := by rw [g2]; exact zinb_nI h3 (by decide)
        have e2 : (a 2).toNatClampNeg = gN a 2 := rfl
        have e3 : a 2 + 1 = nI (gN a 2 + 1) := by rw [g2, nI_1]
        have F : zFr (fun j => 1 ≤ j ∧ j ≤ 9) h ((((h.set (1 + 1) (zar .int 12 (upd f1 (gN a 2) (nI j)))).set (1 + 2) (zar .int 12 (upd f2 (gN a 2) (nI q)))).set (1 + 3) (zar .boolean 12 (upd f3 (gN a 2) 0))).set 1 (zob 3 [.int (a 0), .int (a 1), .int (nI (gN a 2 + 1)), .ref (1 + 1), .ref (1 + 2), .ref (1 + 3), .int (a 3), .ref (1 + 4), .ref (1 + 5), .int (a 4), .ref (1 + 6), .ref (1 + 7), .ref (1 + 8)])) :=
          (((zFr.set ⟨by omega, by omega⟩).tr (zFr.set ⟨by omega, by omega⟩)).tr (zFr.set ⟨by omega, by omega⟩)).tr (zFr.set ⟨by omega, by omega⟩)
        simp only [e47_0, e47_1, e47_4, e47_7, e47_8, e47_11, e47_14, e47_16, e47_17, e47_18, e47_21, e47_24, e47_26, e47_29, e47_31, e47_32, e47_33, e47_36, e47_39, e47_40, e47_41, e47_44, e47_47, e47_48, e47_49, e47_51, e47_54, e47_57, e47_58, e47_59, e47_61, e47_64, e47_67, e47_68, e47_69, e47_71, e47_74, e47_75, e47_78, e47_79, e47_80, e47_84, e47_87, e47_88, e47_89, zgF, zgA, zgR, zisO, zpush, zopt_some, ↓reduceIte, List.getElem?_cons_succ, List.getElem?_cons_zero, beq_self_eq_true, true_and, and_true, Bool.true_and, Bool.and_true, Bool.false_and, Bool.and_false, nI_1, not_true_eq_false, not_false_eq_true, vp_narI, hD', s0, c_D_isWeight, c_D_isRack, h1, h2, zb_t, n1, a3, x1, e1, e2]
        have y0 := zset_ne (k := 1 + 1) (c := zar .int 12 (upd f1 (gN a 2) (nI j))) hD' (by omega)
        have y1 := zset_ne (k := 1 + 1) (c := zar .int 12 (upd f1 (gN a 2) (nI j))) s0 (by omega)
        have y3 := zset_ne (k := 1 + 1) (c := zar .int 12 (upd f1 (gN a 2) (nI j))) x2 (by omega)
        have y4 := zset_ne (k := 1 + 1) (c := zar .int 12 (upd f1 (gN a 2) (nI j))) x3 (by omega)
        generalize h.set (1 + 1) (zar .int 12 (upd f1 (gN a 2) (nI j))) = m1 at y0 y1 y3 y4 hS' F ⊢
        simp only [e47_0, e47_1, e47_4, e47_7, e47_8, e47_11, e47_14, e47_16, e47_17, e47_18, e47_21, e47_24, e47_26, e47_29, e47_31, e47_32, e47_33, e47_36, e47_39, e47_40, e47_41, e47_44, e47_47, e47_48, e47_49, e47_50, e47_51, e47_54, e47_57, e47_58, e47_59, e47_61, e47_64, e47_67, e47_68, e47_69, e47_71, e47_74, e47_75, e47_78, e47_79, e47_80, e47_84, e47_87, e47_88, e47_89, zgF, zgA, zgR, zisO, zpush, zopt_some, ↓reduceIte, List.getElem?_cons_succ, List.getElem?_cons_zero, beq_self_eq_true, true_and, and_true, Bool.true_and, Bool.and_true, Bool.false_and, Bool.and_false, nI_1, not_true_eq_false, not_false_eq_true, vp_narI, y0, y1, y3, e1, e2]
        have w0 := zset_ne (k := 1 + 2) (c := zar .int 12 (upd f2 (gN a 2) (nI q))) y0 (by omega)
        have w1 := zset_ne (k := 1 + 2) (c := zar .int 12 (upd f2 (gN a 2) (nI q))) y1 (by omega)
        have w4 := zset_ne (k := 1 + 2) (c := zar .int 12 (upd f2 (gN a 2) (nI q))) y4 (by omega)
        generalize m1.set (1 + 2) (zar .int 12 (upd f2 (gN a 2) (nI q))) = m2 at w0 w1 w4 hS' F ⊢
        simp only [e47_0, e47_1, e47_4, e47_7, e47_8, e47_11, e47_14, e47_16, e47_17, e47_18, e47_21, e47_24, e47_26, e47_29, e47_31, e47_32, e47_33, e47_36, e47_39, e47_40, e47_41, e47_44, e47_47, e47_48, e47_49, e47_50, e47_51, e47_54, e47_57, e47_58, e47_59, e47_60, e47_61, e47_64, e47_67, e47_68, e47_69, e47_71, e47_74, e47_75, e47_78, e47_79, e47_80, e47_84, e47_87, e47_88, e47_89, zgF, zgA, zgR, zisO, zpush, zopt_some, ↓reduceIte, List.getElem?_cons_succ, List.getElem?_cons_zero, beq_self_eq_true, true_and, and_true, Bool.true_and, Bool.and_true, Bool.false_and, Bool.and_false, nI_1, not_true_eq_false, not_false_eq_true, vp_narI, w0, w1, w4, e1, e2, (show vp_nar .boolean (0 : Int32) = 0 by decide)]
        have v0 := zset_ne (k := 1 + 3) (c := zar .boolean 12 (upd f3 (gN a 2) 0)) w0 (by omega)
        have v1 := zset_ne (k := 1 + 3) (c := zar .boolean 12 (upd f3 (gN a 2) 0)) w1 (by omega)
        generalize m2.set (1 + 3) (zar .boolean 12 (upd f3 (gN a 2) 0)) = m3 at v0 v1 hS' F ⊢
        simp only [e47_0, e47_1, e47_4, e47_7, e47_8, e47_11, e47_14, e47_16, e47_17, e47_18, e47_21, e47_24, e47_26, e47_29, e47_31, e47_32, e47_33, e47_36, e47_39, e47_40, e47_41, e47_44, e47_47, e47_48, e47_49, e47_50, e47_51, e47_54, e47_57, e47_58, e47_59, e47_60, e47_61, e47_64, e47_67, e47_68, e47_69, e47_70, e47_71, e47_74, e47_75, e47_78, e47_79, e47_80, e47_84, e47_87, e47_88, e47_89, zgF, zgA, zgR, zisO, zpush, zopt_some, ↓reduceIte, List.getElem?_cons_succ, List.getElem?_cons_zero, beq_self_eq_true, true_and, and_true, Bool.true_and, Bool.and_true, Bool.false_and, Bool.and_false, nI_1, not_true_eq_false, not_false_eq_true, vp_narI, v0, v1, e3, zpF, List.length_cons, List.length_nil]
        simp only [Nat.reduceLT, and_self, List.set_cons_succ, List.set_cons_zero, ↓reduceIte, zopt_some, (show (0 + 1 + 1 + 1 + 1 + 1 + 1 + 1 + 1 + 1 + 1 + 1 + 1 + 1 : Nat) = 13 from rfl)]
        rw [e47_83, e47_84]
        refine ⟨by unfold zisO; rw [zset_ne v0 (by decide)]; rfl, ?_⟩
        refine c_D_fmA hg (zG_bld hg h3 hj (by omega)) (by unfold bldA; rw [upd_n (by omega), upd_n (by omega), upd_n (by omega), upd_n (by omega)]) hK F hS' (fun h' P' T' F' K' => ?_)
        simp only [e47_0, e47_1, e47_4, e47_7, e47_8, e47_11, e47_14, e47_16, e47_17, e47_18, e47_21, e47_24, e47_26, e47_29, e47_31, e47_32, e47_33, e47_36, e47_39, e47_40, e47_41, e47_44, e47_47, e47_48, e47_49, e47_50, e47_51, e47_54, e47_57, e47_58, e47_59, e47_60, e47_61, e47_64, e47_67, e47_68, e47_69, e47_70, e47_71, e47_74, e47_75, e47_78, e47_79, e47_80, e47_83, e47_84, e47_87, e47_88, e47_89, zgF, zgA, zgR, zisO, zpush, zopt_some, ↓reduceIte, List.getElem?_cons_succ, List.getElem?_cons_zero, beq_self_eq_true, true_and, and_true, Bool.true_and, Bool.and_true, Bool.false_and, Bool.and_false, nI_1, not_true_eq_false, not_false_eq_true, vp_narI]
        rw [g2]
        exact hQ h' P' T' F' K'
      · rw [if_neg h3] at hQ
        have a3 : ¬ a 2 < 12 := by rw [g2]; exact nI_nlt (b := 12) (by omega) (by omega)
        simp only [e47_0, e47_1, e47_4, e47_7, e47_8, e47_11, e47_14, e47_16, e47_17, e47_18, e47_21, e47_24, e47_26, e47_29, e47_31, e47_32, e47_33, e47_36, e47_39, e47_40, e47_41, e47_44, e47_47, e47_48, e47_49, e47_50, e47_51, e47_54, e47_57, e47_58, e47_59, e47_60, e47_61, e47_64, e47_67, e47_68, e47_69, e47_70, e47_71, e47_74, e47_75, e47_78, e47_79, e47_80, e47_83, e47_84, e47_87, e47_88, e47_89, zgF, zgA, zgR, zisO, zpush, zopt_some, ↓reduceIte, List.getElem?_cons_succ, List.getElem?_cons_zero, beq_self_eq_true, true_and, and_true, Bool.true_and, Bool.and_true, Bool.false_and, Bool.and_false, nI_1, not_true_eq_false, not_false_eq_true, vp_narI, hD', s0, c_D_isWeight, c_D_isRack, h1, h2, zb_t, n1, a3]
        exact hQ h P T zFr.rf hK
    · rw [if_neg (fun h => h2 h.2)] at hQ
      rw [Bool.not_eq_true] at h2
      simp only [e47_0, e47_1, e47_4, e47_7, e47_8, e47_11, e47_14, e47_16, e47_17, e47_18, e47_21, e47_24, e47_26, e47_29, e47_31, e47_32, e47_33, e47_36, e47_39, e47_40, e47_41, e47_44, e47_47, e47_48, e47_49, e47_50, e47_51, e47_54, e47_57, e47_58, e47_59, e47_60, e47_61, e47_64, e47_67, e47_68, e47_69, e47_70, e47_71, e47_74, e47_75, e47_78, e47_79, e47_80, e47_83, e47_84, e47_87, e47_88, e47_89, zgF, zgA, zgR, zisO, zpush, zopt_some, ↓reduceIte, List.getElem?_cons_succ, List.getElem?_cons_zero, beq_self_eq_true, true_and, and_true, Bool.true_and, Bool.and_true, Bool.false_and, Bool.and_false, nI_1, not_true_eq_false, not_false_eq_true, vp_narI, c_D_isWeight, c_D_isRack, h1, h2, zb_t, zb_f, n1]
      exact hQ h P T zFr.rf hK
  · rw [if_neg (fun h => h1 h.1)] at hQ
    rw [Bool.not_eq_true] at h1
    simp only [e47_0, e47_1, e47_4, e47_7, e47_8, e47_11, e47_14, e47_16, e47_17, e47_18, e47_21, e47_24, e47_26, e47_29, e47_31, e47_32, e47_33, e47_36, e47_39, e47_40, e47_41, e47_44, e47_47, e47_48, e47_49, e47_50, e47_51, e47_54, e47_57, e47_58, e47_59, e47_60, e47_61, e47_64, e47_67, e47_68, e47_69, e47_70, e47_71, e47_74, e47_75, e47_78, e47_79, e47_80, e47_83, e47_84, e47_87, e47_88, e47_89, zgF, zgA, zgR, zisO, zpush, zopt_some, ↓reduceIte, List.getElem?_cons_succ, List.getElem?_cons_zero, beq_self_eq_true, true_and, and_true, Bool.true_and, Bool.and_true, Bool.false_and, Bool.and_false, nI_1, not_true_eq_false, not_false_eq_true, vp_narI, c_D_isWeight, c_D_isRack, h1, zb_t, zb_f, n1]
    exact hQ h P T zFr.rf hK
end ZC
end
