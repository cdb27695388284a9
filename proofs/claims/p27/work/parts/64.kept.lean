/-! the law's areKept -/
section
set_option maxRecDepth 100000
theorem rk_an : ∀ m, m < 64 → ∀ r, r < 6 → m.testBit r = false → nI m &&& ((1 : Int32) <<< (nI r &&& 31)) = 0 := by decide +kernel
section ZC
variable {h : List zC} {z : Nat × (Nat × (Nat → Int32))} {a : Nat → Int32} {Q : Option Value → zX → Prop} {n l : Nat} {H S : Nat → Nat → Int32} {sv f : Nat → Int32}
/-- the first loop: servers that take part, their racks -/
theorem l_kept1 (hg : zG a) (hK : zCl h a n H sv S l f) {v6 v7 v8 v9 v10 v11 v12 v13 v14 : Value}
    (hQ : ∀ v5 : Value, Ev 69 113 [.ref 0, .int (ntp a (gN a 2)), .int (nI (Mk a (gN a 2))), .int (nI (dif (Mk a (gN a 2)) 0)), .int (nI (gN a 2)), v5, v6, v7, v8, v9, v10, v11, v12, v13, v14] [] (h, z) Q) :
    ∀ (j i : Nat) (v5 : Value), i + j = gN a 2 → Ev 69 9 [.ref 0, .int (ntp a i), .int (nI (Mk a i)), .int (nI (dif (Mk a i) 0)), .int (nI i), v5, v6, v7, v8, v9, v10, v11, v12, v13, v14] [] (h, z) Q := by
  have o0 := hK.o
  obtain ⟨⟨P, T, K⟩, -⟩ := id hK
  have cC := fun (w : Int32) (Q : Option Value → zX → Prop) => c_D_count (w := w) (Q := Q) (z := z) hg hK
  have cO := fun (s w : Int32) (Q : Option Value → zX → Prop) => c_D_ofServer (s := s) (w := w) (Q := Q) (z := z) hg K
  obtain ⟨g2, b2⟩ := hg.2.2.1
  have x1 : ¬ (1 : Int32) = 0 := by decide
  intro j
  induction j with
  | zero =>
    intro i v5 hi
    have hi : i = gN a 2 := by omega
    subst hi
    have e1 : a 2 ≤ nI (gN a 2) := by rw [← g2]; exact Int32.le_refl _
    rw [e69_9]
    simp only [e69_11, e69_12, e69_13, e69_16, e69_19, e69_20, e69_22, e69_23, e69_26, e69_29, e69_30, e69_32, e69_33, e69_36, e69_39, e69_40, e69_43, e69_44, e69_46, e69_47, e69_49, e69_52, e69_53, e69_56, e69_57, e69_58, e69_59, e69_60, e69_62, e69_65, e69_66, e69_67, e69_69, e69_70, e69_73, e69_74, e69_75, e69_76, e69_79, e69_80, e69_83, e69_84, e69_85, e69_86, e69_87, e69_89, e69_92, e69_93, e69_94, e69_96, e69_97, e69_100, e69_101, e69_104, e69_105, e69_106, e69_107, e69_110, zpush, zopt_some, ↓reduceIte, List.getElem?_cons_succ, List.getElem?_cons_zero, beq_self_eq_true, true_and, and_true, Bool.true_and, Bool.and_true, Bool.false_and, Bool.and_false, nI_1, not_true_eq_false, not_false_eq_true, vp_narI, o0, cC, qC_0, e1]
    exact hQ v5
  | succ j ih =>
    intro i v5 hi
    have hlt : i < gN a 2 := by omega
    have e1 : ¬ a 2 ≤ nI i := by rw [g2]; exact nI_ge hlt (by omega)
    have ih := fun v5 => ih (i + 1) v5 (by omega)
    have u0 := qO_0 hg hlt
    have u1 := qO_1 hg hlt
    have u2 := qO_2 hg hlt
    have hm := Mk_lt hg (i := i) (by omega)
    obtain ⟨r1, r2⟩ := (hg.2.2.2.2.2.1 i hlt).1
    have en : ntp a (i + 1) = ntp a i + (if tp a i = true then 1 else 0) := rfl
    have em := Mk_s a i
    rw [en, em] at ih
    rw [e69_9]
    by_cases ht : tp a i = true
    · obtain ⟨t1, t2⟩ := tp_i.mp ht
      have t3 : ¬ a (17 + i) ≤ 0 := Int32.not_le.mpr t2
      rw [if_pos ht, if_pos ht, dif_or _ hm _ r2] at ih
      have rb := rk_bt (Mk a i) hm _ r2
      have ro := (rk_or (Mk a i) hm _ r2).1
      by_cases hb : (Mk a i).testBit (gN a (5 + i)) = true
      · rw [if_pos hb, Nat.add_zero] at ih
        rw [if_pos hb] at rb
        have y1 : ¬ nI 1 = 0 := by decide
        simp only [e69_11, e69_12, e69_13, e69_16, e69_19, e69_20, e69_22, e69_23, e69_26, e69_29, e69_30, e69_32, e69_33, e69_36, e69_39, e69_40, e69_43, e69_44, e69_46, e69_47, e69_49, e69_52, e69_53, e69_56, e69_57, e69_58, e69_59, e69_60, e69_62, e69_65, e69_66, e69_67, e69_69, e69_70, e69_73, e69_74, e69_75, e69_76, e69_79, e69_80, e69_83, e69_84, e69_85, e69_86, e69_87, e69_89, e69_92, e69_93, e69_94, e69_96, e69_97, e69_100, e69_101, e69_104, e69_105, e69_106, e69_107, e69_110, zpush, zopt_some, ↓reduceIte, List.getElem?_cons_succ, List.getElem?_cons_zero, beq_self_eq_true, true_and, and_true, Bool.true_and, Bool.and_true, Bool.false_and, Bool.and_false, nI_1, not_true_eq_false, not_false_eq_true, vp_narI, o0, cC, qC_0, e1, cO, u0, u1, u2, t1, t3, x1, r1, rb, ro, y1, Int32.add_zero]
        exact ih _
      · rw [if_neg hb] at ih
        rw [if_neg hb] at rb
        have y1 : nI 0 = 0 := rfl
        simp only [e69_11, e69_12, e69_13, e69_16, e69_19, e69_20, e69_22, e69_23, e69_26, e69_29, e69_30, e69_32, e69_33, e69_36, e69_39, e69_40, e69_43, e69_44, e69_46, e69_47, e69_49, e69_52, e69_53, e69_56, e69_57, e69_58, e69_59, e69_60, e69_62, e69_65, e69_66, e69_67, e69_69, e69_70, e69_73, e69_74, e69_75, e69_76, e69_79, e69_80, e69_83, e69_84, e69_85, e69_86, e69_87, e69_89, e69_92, e69_93, e69_94, e69_96, e69_97, e69_100, e69_101, e69_104, e69_105, e69_106, e69_107, e69_110, zpush, zopt_some, ↓reduceIte, List.getElem?_cons_succ, List.getElem?_cons_zero, beq_self_eq_true, true_and, and_true, Bool.true_and, Bool.and_true, Bool.false_and, Bool.and_false, nI_1, not_true_eq_false, not_false_eq_true, vp_narI, o0, cC, qC_0, e1, cO, u0, u1, u2, t1, t3, x1, r1, rb, ro, y1]
        exact ih _
    · rw [if_neg ht, if_neg ht, Int32.add_zero] at ih
      by_cases t1 : a (29 + i) = 0
      · have t3 : a (17 + i) ≤ 0 := Int32.not_lt.mp (fun q => ht (tp_i.mpr ⟨t1, q⟩))
        simp only [e69_11, e69_12, e69_13, e69_16, e69_19, e69_20, e69_22, e69_23, e69_26, e69_29, e69_30, e69_32, e69_33, e69_36, e69_39, e69_40, e69_43, e69_44, e69_46, e69_47, e69_49, e69_52, e69_53, e69_56, e69_57, e69_58, e69_59, e69_60, e69_62, e69_65, e69_66, e69_67, e69_69, e69_70, e69_73, e69_74, e69_75, e69_76, e69_79, e69_80, e69_83, e69_84, e69_85, e69_86, e69_87, e69_89, e69_92, e69_93, e69_94, e69_96, e69_97, e69_100, e69_101, e69_104, e69_105, e69_106, e69_107, e69_110, zpush, zopt_some, ↓reduceIte, List.getElem?_cons_succ, List.getElem?_cons_zero, beq_self_eq_true, true_and, and_true, Bool.true_and, Bool.and_true, Bool.false_and, Bool.and_false, nI_1, not_true_eq_false, not_false_eq_true, vp_narI, o0, cC, qC_0, e1, cO, u0, u1, u2, t1, t3, or0, Int32.add_zero]
        exact ih _
      · simp only [e69_11, e69_12, e69_13, e69_16, e69_19, e69_20, e69_22, e69_23, e69_26, e69_29, e69_30, e69_32, e69_33, e69_36, e69_39, e69_40, e69_43, e69_44, e69_46, e69_47, e69_49, e69_52, e69_53, e69_56, e69_57, e69_58, e69_59, e69_60, e69_62, e69_65, e69_66, e69_67, e69_69, e69_70, e69_73, e69_74, e69_75, e69_76, e69_79, e69_80, e69_83, e69_84, e69_85, e69_86, e69_87, e69_89, e69_92, e69_93, e69_94, e69_96, e69_97, e69_100, e69_101, e69_104, e69_105, e69_106, e69_107, e69_110, zpush, zopt_some, ↓reduceIte, List.getElem?_cons_succ, List.getElem?_cons_zero, beq_self_eq_true, true_and, and_true, Bool.true_and, Bool.and_true, Bool.false_and, Bool.and_false, nI_1, not_true_eq_false, not_false_eq_true, vp_narI, o0, cC, qC_0, e1, cO, u0, u2, t1, or0, Int32.add_zero]
        exact ih _
/-- the last loop: loads and fair shares -/
theorem l_kept3 (hg : zG a) (hK : zCl h a n H sv S l f) {v1 v2 v3 v4 v7 : Int32} {v9 v10 v11 v12 v13 v14 : Value}
    (hQ : Ev 69 485 [.ref 0, .int v1, .int v2, .int v3, .int v4, .int (nI (cps a * gN a 3)), .int (nI (sfs a (gN a 2))), .int v7, .int (nI (gN a 2)), v9, v10, v11, v12, v13, v14] [] (h, z) Q) :
    ∀ (j i : Nat), i + j = gN a 2 → Ev 69 445 [.ref 0, .int v1, .int v2, .int v3, .int v4, .int (nI (sld a (gN a 3) i)), .int (nI (sfs a i)), .int v7, .int (nI i), v9, v10, v11, v12, v13, v14] [] (h, z) Q := by
  have o0 := hK.o
  obtain ⟨⟨P, T, K⟩, -⟩ := id hK
  have cC := fun (w : Int32) (Q : Option Value → zX → Prop) => c_D_count (w := w) (Q := Q) (z := z) hg hK
  have cO := fun (s w : Int32) (Q : Option Value → zX → Prop) => c_D_ofServer (s := s) (w := w) (Q := Q) (z := z) hg K
  obtain ⟨g2, b2⟩ := hg.2.2.1
  intro j
  induction j with
  | zero =>
    intro i hi
    have hi : i = gN a 2 := by omega
    subst hi
    have e1 : a 2 ≤ nI (gN a 2) := by rw [← g2]; exact Int32.le_refl _
    rw [e69_445, sld_all hg]
    simp only [e69_447, e69_448, e69_449, e69_452, e69_455, e69_457, e69_458, e69_460, e69_461, e69_464, e69_465, e69_467, e69_469, e69_470, e69_472, e69_473, e69_476, e69_477, e69_479, e69_482, zpush, zopt_some, ↓reduceIte, List.getElem?_cons_succ, List.getElem?_cons_zero, beq_self_eq_true, true_and, and_true, Bool.true_and, Bool.and_true, Bool.false_and, Bool.and_false, nI_1, not_true_eq_false, not_false_eq_true, vp_narI, o0, cC, qC_0, e1]
    exact hQ
  | succ j ih =>
    intro i hi
    have hlt : i < gN a 2 := by omega
    have e1 : ¬ a 2 ≤ nI i := by rw [g2]; exact nI_ge hlt (by omega)
    have ih := ih (i + 1) (by omega)
    have u3 := qO_3 hg hlt
    have u4 := qO_4 hg hlt
    rw [e69_445]
    simp only [e69_447, e69_448, e69_449, e69_452, e69_455, e69_457, e69_458, e69_460, e69_461, e69_464, e69_465, e69_467, e69_469, e69_470, e69_472, e69_473, e69_476, e69_477, e69_479, e69_482, zpush, zopt_some, ↓reduceIte, List.getElem?_cons_succ, List.getElem?_cons_zero, beq_self_eq_true, true_and, and_true, Bool.true_and, Bool.and_true, Bool.false_and, Bool.and_false, nI_1, not_true_eq_false, not_false_eq_true, vp_narI, o0, cC, qC_0, e1, cO, u3, u4, nI_add]
    exact ih
theorem sub_le {T F N : Nat} (h : T ≤ F + N) (hN : N ≤ 12) (hT : T = 0 ∨ 12 ≤ T) (hb : T < 2 ^ 31) (hF : F < 2 ^ 31) : nI T - nI N ≤ nI F := by
  rcases hT with rfl | hT
  · have : ∀ N, N ≤ 12 → nI 0 - nI N ≤ 0 := by decide +kernel
    exact Int32.le_trans (this N hN) (nI_pos' hF)
  · have e : nI T - nI N = nI (T - N) := by
      have : nI T = nI (T - N) + nI N := by rw [nI_add]; congr 1; omega
      rw [this, Int32.add_sub_cancel]
    rw [e]
    exact nI_le (by omega) hF
/-- the end: all together -/
theorem s_kept4 (hg : zG a) (h0 : 0 < gN a 2) (hK : zCl h a n H sv S l f) {v2 v3 v4 v8 : Int32} {v9 v10 v11 v12 v13 v14 : Value} (hQ : Q (some (.int 1)) (h, z)) :
    Ev 69 485 [.ref 0, .int (ntp a (gN a 2)), .int v2, .int v3, .int v4, .int (nI (cps a * gN a 3)), .int (nI (sfs a (gN a 2))), .int 1, .int v8, v9, v10, v11, v12, v13, v14] [] (h, z) Q := by
  have o0 := hK.o
  obtain ⟨⟨P, T, K⟩, -⟩ := id hK
  have cC := fun (w : Int32) (Q : Option Value → zX → Prop) => c_D_count (w := w) (Q := Q) (z := z) hg hK
  have cL := fun (s w : Int32) (Q : Option Value → zX → Prop) => c_D_lostWith (s := s) (t := w) (Q := Q) (z := z) hg K
  obtain ⟨g2, b2⟩ := hg.2.2.1
  have c := cps_le hg
  obtain ⟨k1, k2⟩ := sfs_ok hg
  have kn := ntN_le a (gN a 2)
  have x1 : ¬ (1 : Int32) = 0 := by decide
  have tt := tot_N hg (gN a 3)
  have em : (1000 : Int32) * nI (cps a * gN a 3) = nI (1000 * (cps a * gN a 3)) := pk_mul 1000 _
  have y1 : ¬ nI (1000 * (cps a * gN a 3)) < nI (sfs a (gN a 2)) := nI_nlt k1 (by omega)
  have y2 : ¬ nI (sfs a (gN a 2)) < nI (1000 * (cps a * gN a 3)) - nI (ntN a (gN a 2)) := Int32.not_lt.mpr (sub_le k2 (by omega) (by omega) (by omega) (by omega))
  have y3 : ¬ qLw a 0 (nI (gN a 2 - 1)) < qLw a 0 0 := Int32.not_lt.mpr (qLw_le hg h0)
  have e2 : a 2 - 1 = nI (gN a 2 - 1) := by
    rw [g2]
    obtain ⟨m, hm⟩ : ∃ m, gN a 2 = m + 1 := ⟨gN a 2 - 1, by omega⟩
    rw [hm, nI_sub1, Nat.add_sub_cancel]
  simp only [e69_485, e69_487, e69_490, e69_492, e69_493, e69_494, e69_497, e69_500, e69_502, e69_505, e69_507, e69_508, e69_511, e69_513, e69_516, e69_518, e69_519, e69_520, e69_521, e69_524, e69_525, e69_526, e69_527, e69_530, e69_531, e69_532, e69_533, e69_534, e69_537, e69_538, e69_539, e69_542, e69_545, e69_546, e69_549, e69_550, zpush, zopt_some, ↓reduceIte, List.getElem?_cons_succ, List.getElem?_cons_zero, beq_self_eq_true, true_and, and_true, Bool.true_and, Bool.and_true, Bool.false_and, Bool.and_false, nI_1, not_true_eq_false, not_false_eq_true, vp_narI, eq_self, x1, o0, cC, qC_2, qC_0, tt, em, y1, ntp_N, y2, cL, e2, y3, z1_and]
  exact hQ
end ZC
end
