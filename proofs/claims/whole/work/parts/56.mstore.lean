/-! the model stores and drops objects -/
section
set_option maxRecDepth 100000
def rwS (g : Nat → Int32) (n r : Nat) : Nat → Int32 := fun i => if 41 ≤ i ∧ i < 81 then shf r n (fun i => g (41 + i)) (i - 41) else if 81 ≤ i ∧ i < 121 then shf r n (fun i => g (81 + i)) (i - 81) else g i
theorem rwS_o {g : Nat → Int32} {n r i : Nat} (hi : i < 40) : rwS g n r (41 + i) = shf r n (fun i => g (41 + i)) i := by
  unfold rwS; rw [if_pos (by omega), Nat.add_sub_cancel_left]
theorem rwS_p {g : Nat → Int32} {n r i : Nat} (hi : i < 40) : rwS g n r (81 + i) = shf r n (fun i => g (81 + i)) i := by
  unfold rwS; rw [if_neg (by omega), if_pos (by omega), Nat.add_sub_cancel_left]
theorem rwS_n {g : Nat → Int32} {n r i : Nat} (h1 : i < 41 ∨ 121 ≤ i) : rwS g n r i = g i := by
  unfold rwS; rw [if_neg (by omega), if_neg (by omega)]
theorem rwS_top (g : Nat → Int32) (n : Nat) : rwS g n n = g := by
  funext i
  unfold rwS
  rw [shf_top, shf_top]
  split
  · congr 1; omega
  · split
    · congr 1; omega
    · rfl
theorem rwS_st {g : Nat → Int32} {n r : Nat} (hr : r + 1 ≤ n) (hn : n < 40) : upd (upd (rwS g n (r + 1)) (41 + (r + 1)) (g (41 + r))) (81 + (r + 1)) (g (81 + r)) = rwS g n r := by
  funext i
  by_cases h1 : i = 81 + (r + 1)
  · subst h1
    rw [upd_s, rwS_p (by omega)]
    unfold shf
    rw [if_pos (by omega)]; rfl
  · rw [upd_n h1]
    by_cases h2 : i = 41 + (r + 1)
    · subst h2
      rw [upd_s, rwS_o (by omega)]
      unfold shf
      rw [if_pos (by omega)]; rfl
    · rw [upd_n h2]
      unfold rwS
      by_cases h3 : 41 ≤ i ∧ i < 81
      · rw [if_pos h3, if_pos h3]
        unfold shf
        by_cases h4 : r + 1 < i - 41 ∧ i - 41 ≤ n
        · rw [if_pos h4, if_pos (by omega)]
        · rw [if_neg h4, if_neg (by omega)]
      · rw [if_neg h3, if_neg h3]
        by_cases h5 : 81 ≤ i ∧ i < 121
        · rw [if_pos h5, if_pos h5]
          unfold shf
          by_cases h4 : r + 1 < i - 81 ∧ i - 81 ≤ n
          · rw [if_pos h4, if_pos (by omega)]
          · rw [if_neg h4, if_neg (by omega)]
        · rw [if_neg h5, if_neg h5]
theorem insA_eq {g : Nat → Int32} {o : Int32} {n p : Nat} (hn : gN g 3 = n) (h40 : n < 40) (hp : ipos (fun i => g (41 + i)) o n = p) (hpn : p ≤ n) : upd (upd (upd (rwS g n p) (41 + p) o) (81 + p) (-6)) 3 (nI (n + 1)) = insA g o := by
  funext i
  unfold insA
  simp only [hn, hp]
  by_cases h3 : i = 3
  · subst h3; rw [upd_s, if_pos rfl]
  · rw [upd_n h3, if_neg h3]
    by_cases h1 : 41 ≤ i ∧ i < 81
    · rw [if_pos h1, upd_n (by omega)]
      unfold insF
      by_cases e : i = 41 + p
      · subst e; rw [upd_s, Nat.add_sub_cancel_left, upd_s]
      · rw [upd_n e, upd_n (by omega)]
        unfold rwS; rw [if_pos h1]
    · rw [if_neg h1]
      by_cases h2 : 81 ≤ i ∧ i < 121
      · rw [if_pos h2]
        unfold insF
        by_cases e : i = 81 + p
        · subst e; rw [upd_s, Nat.add_sub_cancel_left, upd_s]
        · rw [upd_n e, upd_n (by omega), upd_n (by omega)]
          unfold rwS; rw [if_neg h1, if_pos h2]
      · rw [if_neg h2, upd_n (by omega), upd_n (by omega)]
        unfold rwS; rw [if_neg h1, if_neg h2]
def rwD (g : Nat → Int32) (n p r : Nat) : Nat → Int32 := fun i => if i = 3 then nI (n - 1) else if 41 ≤ i ∧ i < 81 then dwn p r (fun i => g (41 + i)) (i - 41) else if 81 ≤ i ∧ i < 121 then dwn p r (fun i => g (81 + i)) (i - 81) else g i
theorem rwD_0 {g : Nat → Int32} {n p : Nat} : upd g 3 (nI (n - 1)) = rwD g n p p := by
  funext i
  unfold rwD
  rw [dwn_0, dwn_0]
  by_cases h3 : i = 3
  · subst h3; rw [upd_s, if_pos rfl]
  · rw [upd_n h3, if_neg h3]
    split
    · congr 1; omega
    · split
      · congr 1; omega
      · rfl
theorem rwD_o {g : Nat → Int32} {n p r i : Nat} (hi : i < 40) : rwD g n p r (41 + i) = dwn p r (fun i => g (41 + i)) i := by
  unfold rwD; rw [if_neg (by omega), if_pos (by omega), Nat.add_sub_cancel_left]
theorem rwD_p {g : Nat → Int32} {n p r i : Nat} (hi : i < 40) : rwD g n p r (81 + i) = dwn p r (fun i => g (81 + i)) i := by
  unfold rwD; rw [if_neg (by omega), if_neg (by omega), if_pos (by omega), Nat.add_sub_cancel_left]
theorem rwD_st {g : Nat → Int32} {n p r : Nat} (hp : p ≤ r) (hr : r < 40) : upd (upd (rwD g n p r) (41 + r) (g (41 + (r + 1)))) (81 + r) (g (81 + (r + 1))) = rwD g n p (r + 1) := by
  funext i
  by_cases h1 : i = 81 + r
  · subst h1
    rw [upd_s, rwD_p hr]
    unfold dwn
    rw [if_pos (by omega)]
  · rw [upd_n h1]
    by_cases h2 : i = 41 + r
    · subst h2
      rw [upd_s, rwD_o hr]
      unfold dwn
      rw [if_pos (by omega)]
    · rw [upd_n h2]
      unfold rwD
      by_cases h3 : i = 3
      · rw [if_pos h3, if_pos h3]
      · rw [if_neg h3, if_neg h3]
        by_cases h3 : 41 ≤ i ∧ i < 81
        · rw [if_pos h3, if_pos h3]
          unfold dwn
          by_cases h4 : p ≤ i - 41 ∧ i - 41 < r
          · rw [if_pos h4, if_pos (by omega)]
          · rw [if_neg h4, if_neg (by omega)]
        · rw [if_neg h3, if_neg h3]
          by_cases h5 : 81 ≤ i ∧ i < 121
          · rw [if_pos h5, if_pos h5]
            unfold dwn
            by_cases h4 : p ≤ i - 81 ∧ i - 81 < r
            · rw [if_pos h4, if_pos (by omega)]
            · rw [if_neg h4, if_neg (by omega)]
          · rw [if_neg h5, if_neg h5]
section ZC
variable {h : List zC} {z : Nat × (Nat × (Nat → Int32))} {M : Nat → Nat → Int32} {Q : Option Value → zX → Prop} {g : Nat → Int32}
theorem l_M_doStore {o : Int32} {n p : Nat} (hn : n < 40) (h0 : List zC) (M0 : Nat → Nat → Int32) (hQ : ∀ h' M', zMv [0] h0 M0 h' M' → M' 0 = rwS g n p → Ev 107 109 [.ref 108, .int o, .int (nI p)] [] (h', z) Q) :
    ∀ (r : Nat) (h : List zC) (M : Nat → Nat → Int32), r ≤ n → ipos (fun i => g (41 + i)) o r = p → zMv [0] h0 M0 h M → M 0 = rwS g n r → Ev 107 44 [.ref 108, .int o, .int (nI r)] [] (h, z) Q := by
  intro r
  induction r with
  | zero =>
    intro h M hr hp V eg
    have hp : 0 = p := hp
    subst hp
    have e1 : nI 0 ≤ 0 := by decide
    rw [e107_44]
    simp only [e107_0, e107_1, e107_4, e107_7, e107_9, e107_10, e107_11, e107_14, e107_15, e107_16, e107_18, e107_21, e107_23, e107_24, e107_25, e107_26, e107_29, e107_31, e107_34, e107_36, e107_37, e107_38, e107_41, e107_42, e107_43, e107_45, e107_48, e107_49, e107_52, e107_54, e107_55, e107_56, e107_57, e107_58, e107_59, e107_60, e107_63, e107_64, e107_67, e107_69, e107_70, e107_71, e107_72, e107_75, e107_77, e107_78, e107_79, e107_80, e107_81, e107_82, e107_83, e107_84, e107_87, e107_89, e107_90, e107_91, e107_92, e107_95, e107_97, e107_98, e107_99, e107_100, e107_101, e107_102, e107_103, e107_106, e107_110, e107_113, e107_115, e107_116, e107_117, e107_118, e107_119, e107_120, e107_123, e107_125, e107_126, e107_127, e107_129, e107_130, e107_131, e107_134, e107_135, e107_136, e107_137, e107_138, e107_139, e107_140, e107_141, e107_142, e107_145, e107_146, e107_149, zpush, zopt_some, ↓reduceIte, List.getElem?_cons_succ, List.getElem?_cons_zero, beq_self_eq_true, true_and, and_true, Bool.true_and, Bool.and_true, Bool.false_and, Bool.and_false, nI_1, not_true_eq_false, not_false_eq_true, vp_narI, e1]
    exact hQ h M V eg
  | succ r ih =>
    intro h M hr hp V eg
    obtain ⟨o0, fd0, fd1, fd2, fd3, fd4, fd5, fd6, fd7, fd8, fd9, fd10, fd11, fd12, fd13, fd14, fd15, fd16, fd17, fd18, fd19, fd20, a0, a1, a2, a4, a5, a6, a7, a9, a10, a11, a14⟩ := V.mm.q
    rw [eg] at a0
    have e1 : ¬ nI (r + 1) ≤ 0 := nI_nle (by omega) (by omega)
    have i1 : nI (41 + (r + 1)) - 1 = nI (41 + r) := nI_pred (41 + r)
    have i2 : nI (81 + (r + 1)) - 1 = nI (81 + r) := nI_pred (81 + r)
    have e2 : zinb (nI (41 + r)) 484 = true := zinb_nI (by omega) (by decide)
    have e3 : (nI (41 + r)).toNatClampNeg = 41 + r := nI_clamp (by omega)
    have e4 : zinb (nI (81 + r)) 484 = true := zinb_nI (by omega) (by decide)
    have e5 : (nI (81 + r)).toNatClampNeg = 81 + r := nI_clamp (by omega)
    have v1 : rwS g n (r + 1) (41 + r) = g (41 + r) := by rw [rwS_o (by omega), shf_lo (by omega)]
    rw [ipos] at hp
    rw [e107_44]
    by_cases hc : g (41 + r) ≤ o
    · rw [if_pos hc] at hp
      subst hp
      simp only [e107_0, e107_1, e107_4, e107_7, e107_9, e107_10, e107_11, e107_14, e107_15, e107_16, e107_18, e107_21, e107_23, e107_24, e107_25, e107_26, e107_29, e107_31, e107_34, e107_36, e107_37, e107_38, e107_41, e107_42, e107_43, e107_45, e107_48, e107_49, e107_52, e107_54, e107_55, e107_56, e107_57, e107_58, e107_59, e107_60, e107_63, e107_64, e107_67, e107_69, e107_70, e107_71, e107_72, e107_75, e107_77, e107_78, e107_79, e107_80, e107_81, e107_82, e107_83, e107_84, e107_87, e107_89, e107_90, e107_91, e107_92, e107_95, e107_97, e107_98, e107_99, e107_100, e107_101, e107_102, e107_103, e107_106, e107_110, e107_113, e107_115, e107_116, e107_117, e107_118, e107_119, e107_120, e107_123, e107_125, e107_126, e107_127, e107_129, e107_130, e107_131, e107_134, e107_135, e107_136, e107_137, e107_138, e107_139, e107_140, e107_141, e107_142, e107_145, e107_146, e107_149, zpush, zopt_some, ↓reduceIte, List.getElem?_cons_succ, List.getElem?_cons_zero, beq_self_eq_true, true_and, and_true, Bool.true_and, Bool.and_true, Bool.false_and, Bool.and_false, nI_1, not_true_eq_false, not_false_eq_true, vp_narI, k5, k17, k29, k41, k81, k121, j484_0, cl_0, j484_1, cl_1, j484_2, cl_2, j484_3, cl_3, j484_4, cl_4, o0, ↓fd0, ↓fd1, ↓fd2, ↓fd3, ↓fd4, ↓fd5, ↓fd6, ↓fd7, ↓fd8, ↓fd9, ↓fd10, ↓fd11, ↓fd12, ↓fd13, ↓fd14, ↓fd15, ↓fd16, ↓fd17, ↓fd18, ↓fd19, ↓fd20, ↓a0, e1, i1, e2, e3, v1, hc]
      exact hQ h M V eg
    · rw [if_neg hc] at hp
      simp only [e107_0, e107_1, e107_4, e107_7, e107_9, e107_10, e107_11, e107_14, e107_15, e107_16, e107_18, e107_21, e107_23, e107_24, e107_25, e107_26, e107_29, e107_31, e107_34, e107_36, e107_37, e107_38, e107_41, e107_42, e107_43, e107_45, e107_48, e107_49, e107_52, e107_54, e107_55, e107_56, e107_57, e107_58, e107_59, e107_60, e107_63, e107_64, e107_67, e107_69, e107_70, e107_71, e107_72, e107_75, e107_77, e107_78, e107_79, e107_80, e107_81, e107_83, e107_84, e107_87, e107_89, e107_90, e107_91, e107_92, e107_95, e107_97, e107_98, e107_99, e107_100, e107_101, e107_102, e107_103, e107_106, e107_110, e107_113, e107_115, e107_116, e107_117, e107_118, e107_119, e107_120, e107_123, e107_125, e107_126, e107_127, e107_129, e107_130, e107_131, e107_134, e107_135, e107_136, e107_137, e107_138, e107_139, e107_140, e107_141, e107_142, e107_145, e107_146, e107_149, zpush, zopt_some, ↓reduceIte, List.getElem?_cons_succ, List.getElem?_cons_zero, beq_self_eq_true, true_and, and_true, Bool.true_and, Bool.and_true, Bool.false_and, Bool.and_false, nI_1, not_true_eq_false, not_false_eq_true, vp_narI, k5, k17, k29, k41, k81, k121, j484_0, cl_0, j484_1, cl_1, j484_2, cl_2, j484_3, cl_3, j484_4, cl_4, o0, ↓fd0, ↓fd1, ↓fd2, ↓fd3, ↓fd4, ↓fd5, ↓fd6, ↓fd7, ↓fd8, ↓fd9, ↓fd10, ↓fd11, ↓fd12, ↓fd13, ↓fd14, ↓fd15, ↓fd16, ↓fd17, ↓fd18, ↓fd19, ↓fd20, ↓a0, e1, i1, e2, e3, v1, hc]
      rw [e107_82]
      refine V.mm.w0 rfl (by omega) (fun h2 M2 V2 E2 => ?_)
      obtain ⟨o0, fd0, fd1, fd2, fd3, fd4, fd5, fd6, fd7, fd8, fd9, fd10, fd11, fd12, fd13, fd14, fd15, fd16, fd17, fd18, fd19, fd20, a0, a1, a2, a4, a5, a6, a7, a9, a10, a11, a14⟩ := V2.mm.q
      have v2 : M2 0 (81 + r) = g (81 + r) := by rw [E2, upd_n (by omega), eg, rwS_p (by omega), shf_lo (by omega)]
      simp only [e107_0, e107_1, e107_4, e107_7, e107_9, e107_10, e107_11, e107_14, e107_15, e107_16, e107_18, e107_21, e107_23, e107_24, e107_25, e107_26, e107_29, e107_31, e107_34, e107_36, e107_37, e107_38, e107_41, e107_42, e107_43, e107_45, e107_48, e107_49, e107_52, e107_54, e107_55, e107_56, e107_57, e107_58, e107_59, e107_60, e107_63, e107_64, e107_67, e107_69, e107_70, e107_71, e107_72, e107_75, e107_77, e107_78, e107_79, e107_80, e107_81, e107_82, e107_83, e107_84, e107_87, e107_89, e107_90, e107_91, e107_92, e107_95, e107_97, e107_98, e107_99, e107_100, e107_101, e107_103, e107_106, e107_110, e107_113, e107_115, e107_116, e107_117, e107_118, e107_119, e107_120, e107_123, e107_125, e107_126, e107_127, e107_129, e107_130, e107_131, e107_134, e107_135, e107_136, e107_137, e107_138, e107_139, e107_140, e107_141, e107_142, e107_145, e107_146, e107_149, zpush, zopt_some, ↓reduceIte, List.getElem?_cons_succ, List.getElem?_cons_zero, beq_self_eq_true, true_and, and_true, Bool.true_and, Bool.and_true, Bool.false_and, Bool.and_false, nI_1, not_true_eq_false, not_false_eq_true, vp_narI, k5, k17, k29, k41, k81, k121, j484_0, cl_0, j484_1, cl_1, j484_2, cl_2, j484_3, cl_3, j484_4, cl_4, o0, ↓fd0, ↓fd1, ↓fd2, ↓fd3, ↓fd4, ↓fd5, ↓fd6, ↓fd7, ↓fd8, ↓fd9, ↓fd10, ↓fd11, ↓fd12, ↓fd13, ↓fd14, ↓fd15, ↓fd16, ↓fd17, ↓fd18, ↓fd19, ↓fd20, ↓a0, i2, e4, e5, v2]
      rw [e107_102]
      refine V2.mm.w0 rfl (by omega) (fun h3 M3 V3 E3 => ?_)
      have e0 : M3 0 = rwS g n r := by rw [E3, E2, eg, rwS_st (by omega) hn]
      simp only [e107_0, e107_1, e107_4, e107_7, e107_9, e107_10, e107_11, e107_14, e107_15, e107_16, e107_18, e107_21, e107_23, e107_24, e107_25, e107_26, e107_29, e107_31, e107_34, e107_36, e107_37, e107_38, e107_41, e107_42, e107_43, e107_45, e107_48, e107_49, e107_52, e107_54, e107_55, e107_56, e107_57, e107_58, e107_59, e107_60, e107_63, e107_64, e107_67, e107_69, e107_70, e107_71, e107_72, e107_75, e107_77, e107_78, e107_79, e107_80, e107_81, e107_82, e107_83, e107_84, e107_87, e107_89, e107_90, e107_91, e107_92, e107_95, e107_97, e107_98, e107_99, e107_100, e107_101, e107_103, e107_106, e107_110, e107_113, e107_115, e107_116, e107_117, e107_118, e107_119, e107_120, e107_123, e107_125, e107_126, e107_127, e107_129, e107_130, e107_131, e107_134, e107_135, e107_136, e107_137, e107_138, e107_139, e107_140, e107_141, e107_142, e107_145, e107_146, e107_149, zpush, zopt_some, ↓reduceIte, List.getElem?_cons_succ, List.getElem?_cons_zero, beq_self_eq_true, true_and, and_true, Bool.true_and, Bool.and_true, Bool.false_and, Bool.and_false, nI_1, not_true_eq_false, not_false_eq_true, vp_narI, nI_dec]
      exact ih h3 M3 (by omega) hp ((V.to V2 rfl).to V3 rfl) e0
theorem c_M_doStore {o : Int32} (hM : zMM h M) (hg : zG g) (eg : M 0 = g) (hQ : ∀ h' M', zMv [0, 6, 7, 8, 9] h M h' M' → M' 0 = (chK g o).2 → Q (some (.int (chK g o).1)) (h', z)) :
    Ev 107 0 [.ref 108, .int o, zU] [] (h, z) Q := by
  obtain ⟨h3, b3⟩ := hg.2.2.2.1
  obtain ⟨o0, fd0, fd1, fd2, fd3, fd4, fd5, fd6, fd7, fd8, fd9, fd10, fd11, fd12, fd13, fd14, fd15, fd16, fd17, fd18, fd19, fd20, a0, a1, a2, a4, a5, a6, a7, a9, a10, a11, a14⟩ := hM.q
  have hF := fun (Q : Option Value → zX → Prop) => c_M_placeOf (o := o) (z := z) (Q := Q) hM (by rw [eg]; exact hg)
  rw [eg] at a0 hF
  unfold chK at hQ
  by_cases h1 : zinb o 10000 = true
  · by_cases h40 : gN g 3 < 40
    · have e40 : ¬ g 3 = 40 := by
        rw [h3]
        intro e
        have := (nI_eq (a := gN g 3) (b := 40) (by omega) (by decide)).mp e
        omega
      by_cases hf : fnd g o = -6
      · simp only [h1, h40, hf, ↓reduceIte] at hQ
        obtain ⟨c, hc, rfl⟩ := zinb_ex h1 (by decide)
        simp only [e107_0, e107_1, e107_4, e107_7, e107_9, e107_10, e107_11, e107_14, e107_15, e107_16, e107_18, e107_21, e107_23, e107_24, e107_25, e107_26, e107_29, e107_31, e107_34, e107_36, e107_37, e107_38, e107_41, e107_42, e107_43, e107_45, e107_48, e107_49, e107_52, e107_54, e107_55, e107_56, e107_57, e107_58, e107_59, e107_60, e107_63, e107_64, e107_67, e107_69, e107_70, e107_71, e107_72, e107_75, e107_77, e107_78, e107_79, e107_80, e107_81, e107_82, e107_83, e107_84, e107_87, e107_89, e107_90, e107_91, e107_92, e107_95, e107_97, e107_98, e107_99, e107_100, e107_101, e107_102, e107_103, e107_106, e107_109, e107_110, e107_113, e107_115, e107_116, e107_117, e107_118, e107_119, e107_120, e107_123, e107_125, e107_126, e107_127, e107_129, e107_130, e107_131, e107_134, e107_135, e107_136, e107_137, e107_138, e107_139, e107_140, e107_141, e107_142, e107_145, e107_146, e107_149, zpush, zopt_some, ↓reduceIte, List.getElem?_cons_succ, List.getElem?_cons_zero, beq_self_eq_true, true_and, and_true, Bool.true_and, Bool.and_true, Bool.false_and, Bool.and_false, nI_1, not_true_eq_false, not_false_eq_true, vp_narI, k5, k17, k29, k41, k81, k121, j484_0, cl_0, j484_1, cl_1, j484_2, cl_2, j484_3, cl_3, j484_4, cl_4, o0, ↓fd0, ↓fd1, ↓fd2, ↓fd3, ↓fd4, ↓fd5, ↓fd6, ↓fd7, ↓fd8, ↓fd9, ↓fd10, ↓fd11, ↓fd12, ↓fd13, ↓fd14, ↓fd15, ↓fd16, ↓fd17, ↓fd18, ↓fd19, ↓fd20, ↓a0, c_M_isObject, hF, h1, e40, hf, zb_t, (show ¬ (1 : Int32) = 0 by decide), not_false_eq_true]
        rw [h3]
        have hpn := ipos_le (fun i => g (41 + i)) (nI c) (gN g 3)
        refine l_M_doStore (g := g) h40 h M (fun h1 M1 V1 E1 => ?_) (gN g 3) h M (Nat.le_refl _) rfl hM.rf (by rw [rwS_top]; exact eg)
        rw [show ipos (fun i => g (41 + i)) (nI c) (gN g 3) = iposA g (nI c) from rfl] at E1 hpn ⊢
        generalize hp : iposA g (nI c) = p at E1 hQ hpn ⊢
        have z3 := insA_eq (g := g) (o := nI c) (p := p) rfl h40 hp hpn
        obtain ⟨o0, fd0, fd1, fd2, fd3, fd4, fd5, fd6, fd7, fd8, fd9, fd10, fd11, fd12, fd13, fd14, fd15, fd16, fd17, fd18, fd19, fd20, a0, a1, a2, a4, a5, a6, a7, a9, a10, a11, a14⟩ := V1.mm.q
        rw [e107_109]
        simp only [e107_0, e107_1, e107_4, e107_7, e107_9, e107_10, e107_11, e107_14, e107_15, e107_16, e107_18, e107_21, e107_23, e107_24, e107_25, e107_26, e107_29, e107_31, e107_34, e107_36, e107_37, e107_38, e107_41, e107_42, e107_43, e107_45, e107_48, e107_49, e107_52, e107_54, e107_55, e107_56, e107_57, e107_58, e107_59, e107_60, e107_63, e107_64, e107_67, e107_69, e107_70, e107_71, e107_72, e107_75, e107_77, e107_78, e107_79, e107_80, e107_81, e107_82, e107_83, e107_84, e107_87, e107_89, e107_90, e107_91, e107_92, e107_95, e107_97, e107_98, e107_99, e107_100, e107_101, e107_102, e107_103, e107_106, e107_110, e107_113, e107_115, e107_116, e107_117, e107_119, e107_120, e107_123, e107_125, e107_126, e107_127, e107_129, e107_130, e107_131, e107_134, e107_135, e107_136, e107_137, e107_138, e107_139, e107_140, e107_141, e107_142, e107_145, e107_146, e107_149, zpush, zopt_some, ↓reduceIte, List.getElem?_cons_succ, List.getElem?_cons_zero, beq_self_eq_true, true_and, and_true, Bool.true_and, Bool.and_true, Bool.false_and, Bool.and_false, nI_1, not_true_eq_false, not_false_eq_true, vp_narI, k5, k17, k29, k41, k81, k121, j484_0, cl_0, j484_1, cl_1, j484_2, cl_2, j484_3, cl_3, j484_4, cl_4, o0, ↓fd0, ↓fd1, ↓fd2, ↓fd3, ↓fd4, ↓fd5, ↓fd6, ↓fd7, ↓fd8, ↓fd9, ↓fd10, ↓fd11, ↓fd12, ↓fd13, ↓fd14, ↓fd15, ↓fd16, ↓fd17, ↓fd18, ↓fd19, ↓fd20]
        rw [e107_118]
        refine V1.mm.w0 rfl (by omega) (fun h2 M2 V2 E2 => ?_)
        obtain ⟨o0, fd0, fd1, fd2, fd3, fd4, fd5, fd6, fd7, fd8, fd9, fd10, fd11, fd12, fd13, fd14, fd15, fd16, fd17, fd18, fd19, fd20, a0, a1, a2, a4, a5, a6, a7, a9, a10, a11, a14⟩ := V2.mm.q
        simp only [e107_0, e107_1, e107_4, e107_7, e107_9, e107_10, e107_11, e107_14, e107_15, e107_16, e107_18, e107_21, e107_23, e107_24, e107_25, e107_26, e107_29, e107_31, e107_34, e107_36, e107_37, e107_38, e107_41, e107_42, e107_43, e107_45, e107_48, e107_49, e107_52, e107_54, e107_55, e107_56, e107_57, e107_58, e107_59, e107_60, e107_63, e107_64, e107_67, e107_69, e107_70, e107_71, e107_72, e107_75, e107_77, e107_78, e107_79, e107_80, e107_81, e107_82, e107_83, e107_84, e107_87, e107_89, e107_90, e107_91, e107_92, e107_95, e107_97, e107_98, e107_99, e107_100, e107_101, e107_102, e107_103, e107_106, e107_110, e107_113, e107_115, e107_116, e107_117, e107_118, e107_119, e107_120, e107_123, e107_125, e107_126, e107_127, e107_130, e107_131, e107_134, e107_135, e107_136, e107_137, e107_138, e107_139, e107_140, e107_141, e107_142, e107_145, e107_146, e107_149, zpush, zopt_some, ↓reduceIte, List.getElem?_cons_succ, List.getElem?_cons_zero, beq_self_eq_true, true_and, and_true, Bool.true_and, Bool.and_true, Bool.false_and, Bool.and_false, nI_1, not_true_eq_false, not_false_eq_true, vp_narI, k5, k17, k29, k41, k81, k121, j484_0, cl_0, j484_1, cl_1, j484_2, cl_2, j484_3, cl_3, j484_4, cl_4, o0, ↓fd0, ↓fd1, ↓fd2, ↓fd3, ↓fd4, ↓fd5, ↓fd6, ↓fd7, ↓fd8, ↓fd9, ↓fd10, ↓fd11, ↓fd12, ↓fd13, ↓fd14, ↓fd15, ↓fd16, ↓fd17, ↓fd18, ↓fd19, ↓fd20]
        rw [e107_129]
        refine V2.mm.w0 rfl (by omega) (fun h3' M3 V3 E3 => ?_)
        obtain ⟨o0, fd0, fd1, fd2, fd3, fd4, fd5, fd6, fd7, fd8, fd9, fd10, fd11, fd12, fd13, fd14, fd15, fd16, fd17, fd18, fd19, fd20, a0, a1, a2, a4, a5, a6, a7, a9, a10, a11, a14⟩ := V3.mm.q
        have v3 : M3 0 3 = nI (gN g 3) := by rw [E3, upd_n (by omega), E2, upd_n (by omega), E1, rwS_n (by omega)]; exact h3
        simp only [e107_0, e107_1, e107_4, e107_7, e107_9, e107_10, e107_11, e107_14, e107_15, e107_16, e107_18, e107_21, e107_23, e107_24, e107_25, e107_26, e107_29, e107_31, e107_34, e107_36, e107_37, e107_38, e107_41, e107_42, e107_43, e107_45, e107_48, e107_49, e107_52, e107_54, e107_55, e107_56, e107_57, e107_58, e107_59, e107_60, e107_63, e107_64, e107_67, e107_69, e107_70, e107_71, e107_72, e107_75, e107_77, e107_78, e107_79, e107_80, e107_81, e107_82, e107_83, e107_84, e107_87, e107_89, e107_90, e107_91, e107_92, e107_95, e107_97, e107_98, e107_99, e107_100, e107_101, e107_102, e107_103, e107_106, e107_110, e107_113, e107_115, e107_116, e107_117, e107_118, e107_119, e107_120, e107_123, e107_125, e107_126, e107_127, e107_129, e107_130, e107_131, e107_134, e107_135, e107_136, e107_137, e107_138, e107_140, e107_141, e107_142, e107_145, e107_146, e107_149, zpush, zopt_some, ↓reduceIte, List.getElem?_cons_succ, List.getElem?_cons_zero, beq_self_eq_true, true_and, and_true, Bool.true_and, Bool.and_true, Bool.false_and, Bool.and_false, nI_1, not_true_eq_false, not_false_eq_true, vp_narI, k5, k17, k29, k41, k81, k121, j484_0, cl_0, j484_1, cl_1, j484_2, cl_2, j484_3, cl_3, j484_4, cl_4, o0, ↓fd0, ↓fd1, ↓fd2, ↓fd3, ↓fd4, ↓fd5, ↓fd6, ↓fd7, ↓fd8, ↓fd9, ↓fd10, ↓fd11, ↓fd12, ↓fd13, ↓fd14, ↓fd15, ↓fd16, ↓fd17, ↓fd18, ↓fd19, ↓fd20, ↓a0, v3]
        rw [e107_139]
        refine V3.mm.w0 (i := 3) rfl (by omega) (fun h4 M4 V4 E4 => ?_)
        have e0 : M4 0 = insA g (nI c) := by rw [E4, E3, E2, E1]; exact z3
        have n3 : gN (insA g (nI c)) 3 = gN g 3 + 1 := by
          show (insA g (nI c) 3).toNatClampNeg = _
          unfold insA
          simp only [↓reduceIte]
          exact nI_clamp (by omega)
        obtain ⟨o0, fd0, fd1, fd2, fd3, fd4, fd5, fd6, fd7, fd8, fd9, fd10, fd11, fd12, fd13, fd14, fd15, fd16, fd17, fd18, fd19, fd20, a0, a1, a2, a4, a5, a6, a7, a9, a10, a11, a14⟩ := V4.mm.q
        simp only [e107_0, e107_1, e107_4, e107_7, e107_9, e107_10, e107_11, e107_14, e107_15, e107_16, e107_18, e107_21, e107_23, e107_24, e107_25, e107_26, e107_29, e107_31, e107_34, e107_36, e107_37, e107_38, e107_41, e107_42, e107_43, e107_45, e107_48, e107_49, e107_52, e107_54, e107_55, e107_56, e107_57, e107_58, e107_59, e107_60, e107_63, e107_64, e107_67, e107_69, e107_70, e107_71, e107_72, e107_75, e107_77, e107_78, e107_79, e107_80, e107_81, e107_82, e107_83, e107_84, e107_87, e107_89, e107_90, e107_91, e107_92, e107_95, e107_97, e107_98, e107_99, e107_100, e107_101, e107_102, e107_103, e107_106, e107_110, e107_113, e107_115, e107_116, e107_117, e107_118, e107_119, e107_120, e107_123, e107_125, e107_126, e107_127, e107_129, e107_130, e107_131, e107_134, e107_135, e107_136, e107_137, e107_138, e107_140, e107_141, e107_142, e107_145, e107_146, e107_149, zpush, zopt_some, ↓reduceIte, List.getElem?_cons_succ, List.getElem?_cons_zero, beq_self_eq_true, true_and, and_true, Bool.true_and, Bool.and_true, Bool.false_and, Bool.and_false, nI_1, not_true_eq_false, not_false_eq_true, vp_narI, o0, ↓fd0, ↓fd1, ↓fd2, ↓fd3, ↓fd4, ↓fd5, ↓fd6, ↓fd7, ↓fd8, ↓fd9, ↓fd10, ↓fd11, ↓fd12, ↓fd13, ↓fd14, ↓fd15, ↓fd16, ↓fd17, ↓fd18, ↓fd19, ↓fd20]
        refine c_M_findPlacesAt V4.mm (zG_insA hg h40 (by omega)) e0 (by rw [n3]; omega) (fun h5 M5 V5 P5 => ?_)
        obtain ⟨o0, fd0, fd1, fd2, fd3, fd4, fd5, fd6, fd7, fd8, fd9, fd10, fd11, fd12, fd13, fd14, fd15, fd16, fd17, fd18, fd19, fd20, a0, a1, a2, a4, a5, a6, a7, a9, a10, a11, a14⟩ := V5.mm.q
        simp only [e107_0, e107_1, e107_4, e107_7, e107_9, e107_10, e107_11, e107_14, e107_15, e107_16, e107_18, e107_21, e107_23, e107_24, e107_25, e107_26, e107_29, e107_31, e107_34, e107_36, e107_37, e107_38, e107_41, e107_42, e107_43, e107_45, e107_48, e107_49, e107_52, e107_54, e107_55, e107_56, e107_57, e107_58, e107_59, e107_60, e107_63, e107_64, e107_67, e107_69, e107_70, e107_71, e107_72, e107_75, e107_77, e107_78, e107_79, e107_80, e107_81, e107_82, e107_83, e107_84, e107_87, e107_89, e107_90, e107_91, e107_92, e107_95, e107_97, e107_98, e107_99, e107_100, e107_101, e107_102, e107_103, e107_106, e107_110, e107_113, e107_115, e107_116, e107_117, e107_118, e107_119, e107_120, e107_123, e107_125, e107_126, e107_127, e107_129, e107_130, e107_131, e107_134, e107_135, e107_136, e107_137, e107_138, e107_140, e107_141, e107_142, e107_145, e107_146, e107_149, zpush, zopt_some, ↓reduceIte, List.getElem?_cons_succ, List.getElem?_cons_zero, beq_self_eq_true, true_and, and_true, Bool.true_and, Bool.and_true, Bool.false_and, Bool.and_false, nI_1, not_true_eq_false, not_false_eq_true, vp_narI, o0, ↓fd0, ↓fd1, ↓fd2, ↓fd3, ↓fd4, ↓fd5, ↓fd6, ↓fd7, ↓fd8, ↓fd9, ↓fd10, ↓fd11, ↓fd12, ↓fd13, ↓fd14, ↓fd15, ↓fd16, ↓fd17, ↓fd18, ↓fd19, ↓fd20, P5.1]
        exact hQ h5 M5 (((((V1.mono (T' := [0, 6, 7, 8, 9]) rfl).to V2 rfl).to V3 rfl).to V4 rfl).to V5 rfl) ((V5.k 0 rfl).trans e0)
      · simp only [h1, h40, hf, ↓reduceIte] at hQ
        simp only [e107_0, e107_1, e107_4, e107_7, e107_9, e107_10, e107_11, e107_14, e107_15, e107_16, e107_18, e107_21, e107_23, e107_24, e107_25, e107_26, e107_29, e107_31, e107_34, e107_36, e107_38, e107_41, e107_42, e107_43, e107_44, e107_45, e107_48, e107_49, e107_52, e107_54, e107_55, e107_56, e107_57, e107_58, e107_59, e107_60, e107_63, e107_64, e107_67, e107_69, e107_70, e107_71, e107_72, e107_75, e107_77, e107_78, e107_79, e107_80, e107_81, e107_82, e107_83, e107_84, e107_87, e107_89, e107_90, e107_91, e107_92, e107_95, e107_97, e107_98, e107_99, e107_100, e107_101, e107_102, e107_103, e107_106, e107_109, e107_110, e107_113, e107_115, e107_116, e107_117, e107_118, e107_119, e107_120, e107_123, e107_125, e107_126, e107_127, e107_129, e107_130, e107_131, e107_134, e107_135, e107_136, e107_137, e107_138, e107_139, e107_140, e107_141, e107_142, e107_145, e107_146, e107_149, zpush, zopt_some, ↓reduceIte, List.getElem?_cons_succ, List.getElem?_cons_zero, beq_self_eq_true, true_and, and_true, Bool.true_and, Bool.and_true, Bool.false_and, Bool.and_false, nI_1, not_true_eq_false, not_false_eq_true, vp_narI, k5, k17, k29, k41, k81, k121, j484_0, cl_0, j484_1, cl_1, j484_2, cl_2, j484_3, cl_3, j484_4, cl_4, o0, ↓fd0, ↓fd1, ↓fd2, ↓fd3, ↓fd4, ↓fd5, ↓fd6, ↓fd7, ↓fd8, ↓fd9, ↓fd10, ↓fd11, ↓fd12, ↓fd13, ↓fd14, ↓fd15, ↓fd16, ↓fd17, ↓fd18, ↓fd19, ↓fd20, ↓a0, c_M_isObject, hF, h1, e40, hf, zb_t, (show ¬ (1 : Int32) = 0 by decide), not_false_eq_true]
        exact hQ h M hM.rf eg
    · have e40 : g 3 = 40 := by rw [h3, show gN g 3 = 40 by omega]; rfl
      simp only [h1, h40, ↓reduceIte] at hQ
      simp only [e107_0, e107_1, e107_4, e107_7, e107_9, e107_10, e107_11, e107_14, e107_15, e107_16, e107_18, e107_21, e107_23, e107_25, e107_26, e107_29, e107_31, e107_34, e107_36, e107_37, e107_38, e107_41, e107_42, e107_43, e107_44, e107_45, e107_48, e107_49, e107_52, e107_54, e107_55, e107_56, e107_57, e107_58, e107_59, e107_60, e107_63, e107_64, e107_67, e107_69, e107_70, e107_71, e107_72, e107_75, e107_77, e107_78, e107_79, e107_80, e107_81, e107_82, e107_83, e107_84, e107_87, e107_89, e107_90, e107_91, e107_92, e107_95, e107_97, e107_98, e107_99, e107_100, e107_101, e107_102, e107_103, e107_106, e107_109, e107_110, e107_113, e107_115, e107_116, e107_117, e107_118, e107_119, e107_120, e107_123, e107_125, e107_126, e107_127, e107_129, e107_130, e107_131, e107_134, e107_135, e107_136, e107_137, e107_138, e107_139, e107_140, e107_141, e107_142, e107_145, e107_146, e107_149, zpush, zopt_some, ↓reduceIte, List.getElem?_cons_succ, List.getElem?_cons_zero, beq_self_eq_true, true_and, and_true, Bool.true_and, Bool.and_true, Bool.false_and, Bool.and_false, nI_1, not_true_eq_false, not_false_eq_true, vp_narI, k5, k17, k29, k41, k81, k121, j484_0, cl_0, j484_1, cl_1, j484_2, cl_2, j484_3, cl_3, j484_4, cl_4, o0, ↓fd0, ↓fd1, ↓fd2, ↓fd3, ↓fd4, ↓fd5, ↓fd6, ↓fd7, ↓fd8, ↓fd9, ↓fd10, ↓fd11, ↓fd12, ↓fd13, ↓fd14, ↓fd15, ↓fd16, ↓fd17, ↓fd18, ↓fd19, ↓fd20, ↓a0, c_M_isObject, h1, e40, zb_t, (show ¬ (1 : Int32) = 0 by decide), not_false_eq_true, not_true_eq_false]
      exact hQ h M hM.rf eg
  · simp only [h1, ↓reduceIte] at hQ
    rw [Bool.not_eq_true] at h1
    simp only [e107_0, e107_1, e107_4, e107_7, e107_9, e107_11, e107_14, e107_15, e107_16, e107_18, e107_21, e107_23, e107_24, e107_25, e107_26, e107_29, e107_31, e107_34, e107_36, e107_37, e107_38, e107_41, e107_42, e107_43, e107_44, e107_45, e107_48, e107_49, e107_52, e107_54, e107_55, e107_56, e107_57, e107_58, e107_59, e107_60, e107_63, e107_64, e107_67, e107_69, e107_70, e107_71, e107_72, e107_75, e107_77, e107_78, e107_79, e107_80, e107_81, e107_82, e107_83, e107_84, e107_87, e107_89, e107_90, e107_91, e107_92, e107_95, e107_97, e107_98, e107_99, e107_100, e107_101, e107_102, e107_103, e107_106, e107_109, e107_110, e107_113, e107_115, e107_116, e107_117, e107_118, e107_119, e107_120, e107_123, e107_125, e107_126, e107_127, e107_129, e107_130, e107_131, e107_134, e107_135, e107_136, e107_137, e107_138, e107_139, e107_140, e107_141, e107_142, e107_145, e107_146, e107_149, zpush, zopt_some, ↓reduceIte, List.getElem?_cons_succ, List.getElem?_cons_zero, beq_self_eq_true, true_and, and_true, Bool.true_and, Bool.and_true, Bool.false_and, Bool.and_false, nI_1, not_true_eq_false, not_false_eq_true, vp_narI, c_M_isObject, h1, zb_f]
    exact hQ h M hM.rf eg
theorem l_M_doDrop {o l2 : Int32} {n p : Nat} (hn : n ≤ 40) (hn1 : 1 ≤ n) (h0 : List zC) (M0 : Nat → Nat → Int32) (hQ : ∀ h' M', zMv [0] h0 M0 h' M' → M' 0 = rwD g n p (n - 1) → Q (some (.int (nI (n - 1)))) (h', z)) :
    ∀ (j r : Nat) (h : List zC) (M : Nat → Nat → Int32), r + j = n - 1 → p ≤ r → zMv [0] h0 M0 h M → M 0 = rwD g n p r → Ev 108 26 [.ref 108, .int o, .int l2, .int (nI r)] [] (h, z) Q := by
  intro j
  induction j with
  | zero =>
    intro r h M hr hp V eg
    have hr : r = n - 1 := by omega
    subst hr
    obtain ⟨o0, fd0, fd1, fd2, fd3, fd4, fd5, fd6, fd7, fd8, fd9, fd10, fd11, fd12, fd13, fd14, fd15, fd16, fd17, fd18, fd19, fd20, a0, a1, a2, a4, a5, a6, a7, a9, a10, a11, a14⟩ := V.mm.q
    rw [eg] at a0
    have v3 : rwD g n p (n - 1) 3 = nI (n - 1) := by unfold rwD; rw [if_pos rfl]
    have e1 : nI (n - 1) ≤ nI (n - 1) := Int32.le_refl _
    rw [e108_26]
    simp only [e108_0, e108_1, e108_2, e108_5, e108_6, e108_7, e108_9, e108_12, e108_13, e108_14, e108_15, e108_18, e108_19, e108_20, e108_21, e108_22, e108_23, e108_24, e108_25, e108_27, e108_28, e108_31, e108_32, e108_33, e108_36, e108_37, e108_40, e108_42, e108_43, e108_44, e108_45, e108_48, e108_50, e108_51, e108_52, e108_53, e108_54, e108_55, e108_56, e108_57, e108_60, e108_62, e108_63, e108_64, e108_65, e108_68, e108_70, e108_71, e108_72, e108_73, e108_74, e108_75, e108_76, e108_79, e108_82, e108_83, e108_86, e108_87, e108_88, zpush, zopt_some, ↓reduceIte, List.getElem?_cons_succ, List.getElem?_cons_zero, beq_self_eq_true, true_and, and_true, Bool.true_and, Bool.and_true, Bool.false_and, Bool.and_false, nI_1, not_true_eq_false, not_false_eq_true, vp_narI, k5, k17, k29, k41, k81, k121, j484_0, cl_0, j484_1, cl_1, j484_2, cl_2, j484_3, cl_3, j484_4, cl_4, o0, ↓fd0, ↓fd1, ↓fd2, ↓fd3, ↓fd4, ↓fd5, ↓fd6, ↓fd7, ↓fd8, ↓fd9, ↓fd10, ↓fd11, ↓fd12, ↓fd13, ↓fd14, ↓fd15, ↓fd16, ↓fd17, ↓fd18, ↓fd19, ↓fd20, ↓a0, v3, e1]
    exact hQ h M V eg
  | succ j ih =>
    intro r h M hr hp V eg
    obtain ⟨o0, fd0, fd1, fd2, fd3, fd4, fd5, fd6, fd7, fd8, fd9, fd10, fd11, fd12, fd13, fd14, fd15, fd16, fd17, fd18, fd19, fd20, a0, a1, a2, a4, a5, a6, a7, a9, a10, a11, a14⟩ := V.mm.q
    rw [eg] at a0
    have v3 : rwD g n p r 3 = nI (n - 1) := by unfold rwD; rw [if_pos rfl]
    have e1 : ¬ nI (n - 1) ≤ nI r := nI_ge (by omega) (by omega)
    have e2 : zinb (nI (41 + r + 1)) 484 = true := zinb_nI (by omega) (by decide)
    have e3 : (nI (41 + r + 1)).toNatClampNeg = 41 + r + 1 := nI_clamp (by omega)
    have e4 : zinb (nI (81 + r + 1)) 484 = true := zinb_nI (by omega) (by decide)
    have e5 : (nI (81 + r + 1)).toNatClampNeg = 81 + r + 1 := nI_clamp (by omega)
    have v1 : rwD g n p r (41 + r + 1) = g (41 + (r + 1)) := by rw [Nat.add_assoc, rwD_o (by omega), dwn_hi (by omega)]
    rw [e108_26]
    simp only [e108_0, e108_1, e108_2, e108_5, e108_6, e108_7, e108_9, e108_12, e108_13, e108_14, e108_15, e108_18, e108_19, e108_20, e108_21, e108_22, e108_23, e108_24, e108_25, e108_27, e108_28, e108_31, e108_32, e108_33, e108_36, e108_37, e108_40, e108_42, e108_43, e108_44, e108_45, e108_48, e108_50, e108_51, e108_52, e108_53, e108_54, e108_56, e108_57, e108_60, e108_62, e108_63, e108_64, e108_65, e108_68, e108_70, e108_71, e108_72, e108_73, e108_74, e108_75, e108_76, e108_79, e108_82, e108_83, e108_86, e108_87, e108_88, zpush, zopt_some, ↓reduceIte, List.getElem?_cons_succ, List.getElem?_cons_zero, beq_self_eq_true, true_and, and_true, Bool.true_and, Bool.and_true, Bool.false_and, Bool.and_false, nI_1, not_true_eq_false, not_false_eq_true, vp_narI, k5, k17, k29, k41, k81, k121, j484_0, cl_0, j484_1, cl_1, j484_2, cl_2, j484_3, cl_3, j484_4, cl_4, o0, ↓fd0, ↓fd1, ↓fd2, ↓fd3, ↓fd4, ↓fd5, ↓fd6, ↓fd7, ↓fd8, ↓fd9, ↓fd10, ↓fd11, ↓fd12, ↓fd13, ↓fd14, ↓fd15, ↓fd16, ↓fd17, ↓fd18, ↓fd19, ↓fd20, ↓a0, v3, e1, e2, e3, v1]
    rw [e108_55]
    refine V.mm.w0 rfl (by omega) (fun h2 M2 V2 E2 => ?_)
    obtain ⟨o0, fd0, fd1, fd2, fd3, fd4, fd5, fd6, fd7, fd8, fd9, fd10, fd11, fd12, fd13, fd14, fd15, fd16, fd17, fd18, fd19, fd20, a0, a1, a2, a4, a5, a6, a7, a9, a10, a11, a14⟩ := V2.mm.q
    have v2 : M2 0 (81 + r + 1) = g (81 + (r + 1)) := by rw [E2, upd_n (by omega), eg, Nat.add_assoc, rwD_p (by omega), dwn_hi (by omega)]
    simp only [e108_0, e108_1, e108_2, e108_5, e108_6, e108_7, e108_9, e108_12, e108_13, e108_14, e108_15, e108_18, e108_19, e108_20, e108_21, e108_22, e108_23, e108_24, e108_25, e108_27, e108_28, e108_31, e108_32, e108_33, e108_36, e108_37, e108_40, e108_42, e108_43, e108_44, e108_45, e108_48, e108_50, e108_51, e108_52, e108_53, e108_54, e108_55, e108_56, e108_57, e108_60, e108_62, e108_63, e108_64, e108_65, e108_68, e108_70, e108_71, e108_72, e108_73, e108_74, e108_76, e108_79, e108_82, e108_83, e108_86, e108_87, e108_88, zpush, zopt_some, ↓reduceIte, List.getElem?_cons_succ, List.getElem?_cons_zero, beq_self_eq_true, true_and, and_true, Bool.true_and, Bool.and_true, Bool.false_and, Bool.and_false, nI_1, not_true_eq_false, not_false_eq_true, vp_narI, k5, k17, k29, k41, k81, k121, j484_0, cl_0, j484_1, cl_1, j484_2, cl_2, j484_3, cl_3, j484_4, cl_4, o0, ↓fd0, ↓fd1, ↓fd2, ↓fd3, ↓fd4, ↓fd5, ↓fd6, ↓fd7, ↓fd8, ↓fd9, ↓fd10, ↓fd11, ↓fd12, ↓fd13, ↓fd14, ↓fd15, ↓fd16, ↓fd17, ↓fd18, ↓fd19, ↓fd20, ↓a0, e4, e5, v2]
    rw [e108_75]
    refine V2.mm.w0 rfl (by omega) (fun h3 M3 V3 E3 => ?_)
    have e0 : M3 0 = rwD g n p (r + 1) := by rw [E3, E2, eg, rwD_st hp (by omega)]
    simp only [e108_0, e108_1, e108_2, e108_5, e108_6, e108_7, e108_9, e108_12, e108_13, e108_14, e108_15, e108_18, e108_19, e108_20, e108_21, e108_22, e108_23, e108_24, e108_25, e108_27, e108_28, e108_31, e108_32, e108_33, e108_36, e108_37, e108_40, e108_42, e108_43, e108_44, e108_45, e108_48, e108_50, e108_51, e108_52, e108_53, e108_54, e108_55, e108_56, e108_57, e108_60, e108_62, e108_63, e108_64, e108_65, e108_68, e108_70, e108_71, e108_72, e108_73, e108_74, e108_76, e108_79, e108_82, e108_83, e108_86, e108_87, e108_88, zpush, zopt_some, ↓reduceIte, List.getElem?_cons_succ, List.getElem?_cons_zero, beq_self_eq_true, true_and, and_true, Bool.true_and, Bool.and_true, Bool.false_and, Bool.and_false, nI_1, not_true_eq_false, not_false_eq_true, vp_narI]
    exact ih (r + 1) h3 M3 (by omega) (by omega) ((V.to V2 rfl).to V3 rfl) e0
theorem c_M_doDrop {o : Int32} (hM : zMM h M) (hg : zG g) (eg : M 0 = g) (hQ : ∀ h' M', zMv [0, 6, 7, 8, 9] h M h' M' → M' 0 = (chX g o).2 → Q (some (.int (chX g o).1)) (h', z)) :
    Ev 108 0 [.ref 108, .int o, zU, zU] [] (h, z) Q := by
  obtain ⟨h3, b3⟩ := hg.2.2.2.1
  obtain ⟨o0, fd0, fd1, fd2, fd3, fd4, fd5, fd6, fd7, fd8, fd9, fd10, fd11, fd12, fd13, fd14, fd15, fd16, fd17, fd18, fd19, fd20, a0, a1, a2, a4, a5, a6, a7, a9, a10, a11, a14⟩ := hM.q
  have hF := fun (Q : Option Value → zX → Prop) => c_M_placeOf (o := o) (z := z) (Q := Q) hM (by rw [eg]; exact hg)
  rw [eg] at a0 hF
  unfold chX at hQ
  by_cases h1 : fnd g o = -6
  · simp only [h1, ↓reduceIte] at hQ
    simp only [e108_0, e108_1, e108_2, e108_5, e108_6, e108_7, e108_9, e108_12, e108_13, e108_15, e108_18, e108_19, e108_20, e108_21, e108_22, e108_23, e108_24, e108_25, e108_26, e108_27, e108_28, e108_31, e108_32, e108_33, e108_36, e108_37, e108_40, e108_42, e108_43, e108_44, e108_45, e108_48, e108_50, e108_51, e108_52, e108_53, e108_54, e108_55, e108_56, e108_57, e108_60, e108_62, e108_63, e108_64, e108_65, e108_68, e108_70, e108_71, e108_72, e108_73, e108_74, e108_75, e108_76, e108_79, e108_82, e108_83, e108_86, e108_87, e108_88, zpush, zopt_some, ↓reduceIte, List.getElem?_cons_succ, List.getElem?_cons_zero, beq_self_eq_true, true_and, and_true, Bool.true_and, Bool.and_true, Bool.false_and, Bool.and_false, nI_1, not_true_eq_false, not_false_eq_true, vp_narI, o0, ↓fd0, ↓fd1, ↓fd2, ↓fd3, ↓fd4, ↓fd5, ↓fd6, ↓fd7, ↓fd8, ↓fd9, ↓fd10, ↓fd11, ↓fd12, ↓fd13, ↓fd14, ↓fd15, ↓fd16, ↓fd17, ↓fd18, ↓fd19, ↓fd20, hF, h1, not_true_eq_false]
    exact hQ h M hM.rf eg
  · obtain ⟨k, hk, ok, fk, ck⟩ := fnd_ok hg h1
    have f1 : ¬ nI k = -6 := nI_ne6 (by omega)
    rw [fk] at hF ck hQ
    simp only [f1, ↓reduceIte, ck] at hQ
    have v3 : g 3 - 1 = nI (gN g 3 - 1) := by
      rw [h3, show gN g 3 = (gN g 3 - 1) + 1 by omega, nI_pred]; rfl
    simp only [e108_0, e108_1, e108_2, e108_5, e108_6, e108_7, e108_9, e108_12, e108_13, e108_14, e108_15, e108_18, e108_19, e108_20, e108_21, e108_22, e108_24, e108_25, e108_27, e108_28, e108_31, e108_32, e108_33, e108_36, e108_37, e108_40, e108_42, e108_43, e108_44, e108_45, e108_48, e108_50, e108_51, e108_52, e108_53, e108_54, e108_55, e108_56, e108_57, e108_60, e108_62, e108_63, e108_64, e108_65, e108_68, e108_70, e108_71, e108_72, e108_73, e108_74, e108_75, e108_76, e108_79, e108_82, e108_83, e108_86, e108_87, e108_88, zpush, zopt_some, ↓reduceIte, List.getElem?_cons_succ, List.getElem?_cons_zero, beq_self_eq_true, true_and, and_true, Bool.true_and, Bool.and_true, Bool.false_and, Bool.and_false, nI_1, not_true_eq_false, not_false_eq_true, vp_narI, k5, k17, k29, k41, k81, k121, j484_0, cl_0, j484_1, cl_1, j484_2, cl_2, j484_3, cl_3, j484_4, cl_4, o0, ↓fd0, ↓fd1, ↓fd2, ↓fd3, ↓fd4, ↓fd5, ↓fd6, ↓fd7, ↓fd8, ↓fd9, ↓fd10, ↓fd11, ↓fd12, ↓fd13, ↓fd14, ↓fd15, ↓fd16, ↓fd17, ↓fd18, ↓fd19, ↓fd20, ↓a0, hF, f1, v3, not_false_eq_true]
    rw [e108_23]
    refine hM.w0 (i := 3) rfl (by omega) (fun h2 M2 V2 E2 => ?_)
    simp only [e108_0, e108_1, e108_2, e108_5, e108_6, e108_7, e108_9, e108_12, e108_13, e108_14, e108_15, e108_18, e108_19, e108_20, e108_21, e108_22, e108_24, e108_25, e108_27, e108_28, e108_31, e108_32, e108_33, e108_36, e108_37, e108_40, e108_42, e108_43, e108_44, e108_45, e108_48, e108_50, e108_51, e108_52, e108_53, e108_54, e108_55, e108_56, e108_57, e108_60, e108_62, e108_63, e108_64, e108_65, e108_68, e108_70, e108_71, e108_72, e108_73, e108_74, e108_75, e108_76, e108_79, e108_82, e108_83, e108_86, e108_87, e108_88, zpush, zopt_some, ↓reduceIte, List.getElem?_cons_succ, List.getElem?_cons_zero, beq_self_eq_true, true_and, and_true, Bool.true_and, Bool.and_true, Bool.false_and, Bool.and_false, nI_1, not_true_eq_false, not_false_eq_true, vp_narI]
    refine l_M_doDrop (g := g) (n := gN g 3) (p := k) b3 (by omega) h M (fun h3 M3 V3 E3 => ?_) (gN g 3 - 1 - k) k h2 M2 (by omega) (Nat.le_refl _) V2 (by rw [E2, eg]; exact rwD_0)
    exact hQ h3 M3 (V3.mono rfl) E3
end ZC
end
