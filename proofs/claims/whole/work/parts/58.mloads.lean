/-! the model's loads -/
section
set_option maxRecDepth 100000
def zLd (M : Nat → Nat → Int32) (g : Nat → Int32) : Prop := (∀ s, s < 12 → M 10 s = ldF g (gN g 3) s) ∧ (∀ s, s < 12 → M 11 s = nfc g (nI s) (gN g 3)) ∧ M 12 0 = tot g (gN g 3) ∧ M 13 0 = nbl g (g 0) (gN g 3)
def ffA (F : Nat → Int32) (l : List Nat) (c : Nat) : Nat → Int32 := if c = 0 then F else upd F (l.getD 0 0) (F (l.getD 0 0) + 1)
theorem upd_same (f : Nat → Int32) (k : Nat) : upd f k (f k) = f := by
  funext i
  by_cases e : i = k
  · subst e; rw [upd_s]
  · rw [upd_n e]
section ZC
variable {h : List zC} {z : Nat × (Nat × (Nat → Int32))} {M : Nat → Nat → Int32} {Q : Option Value → zX → Prop} {g : Nat → Int32}
theorem l_M_fl0 (h0 : List zC) (M0 : Nat → Nat → Int32) (hQ : ∀ h' M', zMv [10, 11] h0 M0 h' M' → (∀ s, s < 12 → M' 10 s = 0) → (∀ s, s < 12 → M' 11 s = 0) → Ev 118 38 [.ref 108, .int (nI 12), zU] [] (h', z) Q) :
    ∀ (j i : Nat) (h : List zC) (M : Nat → Nat → Int32), i + j = 12 → zMv [10, 11] h0 M0 h M → (∀ s, s < i → M 10 s = 0) → (∀ s, s < i → M 11 s = 0) → Ev 118 12 [.ref 108, .int (nI i), zU] [] (h, z) Q := by
  intro j
  induction j with
  | zero =>
    intro i h M hi V H1 H2
    have hi : i = 12 := by omega
    subst hi
    have e1 : (12 : Int32) ≤ nI 12 := by decide
    rw [e118_12]
    simp only [e118_0, e118_1, e118_2, e118_5, e118_6, e118_7, e118_10, e118_11, e118_13, e118_15, e118_18, e118_19, e118_22, e118_23, e118_24, e118_25, e118_26, e118_29, e118_30, e118_31, e118_32, e118_35, e118_39, e118_40, e118_41, e118_42, e118_45, e118_46, e118_47, e118_50, e118_51, e118_52, e118_55, e118_56, e118_57, e118_58, e118_59, e118_62, e118_65, e118_66, e118_69, e118_70, e118_73, e118_74, e118_75, e118_76, e118_77, e118_78, e118_79, e118_80, e118_81, e118_84, e118_85, e118_88, e118_89, e118_90, e118_91, e118_92, e118_93, e118_96, e118_97, e118_100, e118_101, e118_102, e118_103, e118_106, e118_109, e118_110, e118_111, e118_114, e118_115, e118_118, e118_119, e118_122, e118_123, e118_124, e118_127, e118_128, e118_131, e118_132, e118_135, e118_136, e118_137, e118_140, e118_141, e118_144, e118_145, e118_146, e118_149, e118_152, e118_155, zpush, zopt_some, ↓reduceIte, List.getElem?_cons_succ, List.getElem?_cons_zero, beq_self_eq_true, true_and, and_true, Bool.true_and, Bool.and_true, Bool.false_and, Bool.and_false, nI_1, not_true_eq_false, not_false_eq_true, vp_narI, e1]
    exact hQ h M V H1 H2
  | succ j ih =>
    intro i h M hi V H1 H2
    obtain ⟨o0, fd0, fd1, fd2, fd3, fd4, fd5, fd6, fd7, fd8, fd9, fd10, fd11, fd12, fd13, fd14, fd15, fd16, fd17, fd18, fd19, fd20, a0, a1, a2, a4, a5, a6, a7, a9, a10, a11, a14⟩ := V.mm.q
    have e1 : ¬ (12 : Int32) ≤ nI i := nI_ge (b := 12) (by omega) (by omega)
    rw [e118_12]
    simp only [e118_0, e118_1, e118_2, e118_5, e118_6, e118_7, e118_10, e118_11, e118_13, e118_15, e118_18, e118_19, e118_22, e118_23, e118_25, e118_26, e118_29, e118_30, e118_31, e118_32, e118_35, e118_38, e118_39, e118_40, e118_41, e118_42, e118_45, e118_46, e118_47, e118_50, e118_51, e118_52, e118_55, e118_56, e118_57, e118_58, e118_59, e118_62, e118_65, e118_66, e118_69, e118_70, e118_73, e118_74, e118_75, e118_76, e118_77, e118_78, e118_79, e118_80, e118_81, e118_84, e118_85, e118_88, e118_89, e118_90, e118_91, e118_92, e118_93, e118_96, e118_97, e118_100, e118_101, e118_102, e118_103, e118_106, e118_109, e118_110, e118_111, e118_114, e118_115, e118_118, e118_119, e118_122, e118_123, e118_124, e118_127, e118_128, e118_131, e118_132, e118_135, e118_136, e118_137, e118_140, e118_141, e118_144, e118_145, e118_146, e118_149, e118_152, e118_155, zpush, zopt_some, ↓reduceIte, List.getElem?_cons_succ, List.getElem?_cons_zero, beq_self_eq_true, true_and, and_true, Bool.true_and, Bool.and_true, Bool.false_and, Bool.and_false, nI_1, not_true_eq_false, not_false_eq_true, vp_narI, o0, ↓fd0, ↓fd1, ↓fd2, ↓fd3, ↓fd4, ↓fd5, ↓fd6, ↓fd7, ↓fd8, ↓fd9, ↓fd10, ↓fd11, ↓fd12, ↓fd13, ↓fd14, ↓fd15, ↓fd16, ↓fd17, ↓fd18, ↓fd19, ↓fd20, e1]
    rw [e118_24]
    refine V.mm.w10 rfl (by omega) (fun h2 M2 V2 E2 => ?_)
    obtain ⟨o0, fd0, fd1, fd2, fd3, fd4, fd5, fd6, fd7, fd8, fd9, fd10, fd11, fd12, fd13, fd14, fd15, fd16, fd17, fd18, fd19, fd20, a0, a1, a2, a4, a5, a6, a7, a9, a10, a11, a14⟩ := V2.mm.q
    simp only [e118_0, e118_1, e118_2, e118_5, e118_6, e118_7, e118_10, e118_11, e118_13, e118_15, e118_18, e118_19, e118_22, e118_23, e118_24, e118_25, e118_26, e118_29, e118_30, e118_32, e118_35, e118_38, e118_39, e118_40, e118_41, e118_42, e118_45, e118_46, e118_47, e118_50, e118_51, e118_52, e118_55, e118_56, e118_57, e118_58, e118_59, e118_62, e118_65, e118_66, e118_69, e118_70, e118_73, e118_74, e118_75, e118_76, e118_77, e118_78, e118_79, e118_80, e118_81, e118_84, e118_85, e118_88, e118_89, e118_90, e118_91, e118_92, e118_93, e118_96, e118_97, e118_100, e118_101, e118_102, e118_103, e118_106, e118_109, e118_110, e118_111, e118_114, e118_115, e118_118, e118_119, e118_122, e118_123, e118_124, e118_127, e118_128, e118_131, e118_132, e118_135, e118_136, e118_137, e118_140, e118_141, e118_144, e118_145, e118_146, e118_149, e118_152, e118_155, zpush, zopt_some, ↓reduceIte, List.getElem?_cons_succ, List.getElem?_cons_zero, beq_self_eq_true, true_and, and_true, Bool.true_and, Bool.and_true, Bool.false_and, Bool.and_false, nI_1, not_true_eq_false, not_false_eq_true, vp_narI, o0, ↓fd0, ↓fd1, ↓fd2, ↓fd3, ↓fd4, ↓fd5, ↓fd6, ↓fd7, ↓fd8, ↓fd9, ↓fd10, ↓fd11, ↓fd12, ↓fd13, ↓fd14, ↓fd15, ↓fd16, ↓fd17, ↓fd18, ↓fd19, ↓fd20]
    rw [e118_31]
    refine V2.mm.w11 rfl (by omega) (fun h3 M3 V3 E3 => ?_)
    simp only [e118_0, e118_1, e118_2, e118_5, e118_6, e118_7, e118_10, e118_11, e118_13, e118_15, e118_18, e118_19, e118_22, e118_23, e118_24, e118_25, e118_26, e118_29, e118_30, e118_32, e118_35, e118_38, e118_39, e118_40, e118_41, e118_42, e118_45, e118_46, e118_47, e118_50, e118_51, e118_52, e118_55, e118_56, e118_57, e118_58, e118_59, e118_62, e118_65, e118_66, e118_69, e118_70, e118_73, e118_74, e118_75, e118_76, e118_77, e118_78, e118_79, e118_80, e118_81, e118_84, e118_85, e118_88, e118_89, e118_90, e118_91, e118_92, e118_93, e118_96, e118_97, e118_100, e118_101, e118_102, e118_103, e118_106, e118_109, e118_110, e118_111, e118_114, e118_115, e118_118, e118_119, e118_122, e118_123, e118_124, e118_127, e118_128, e118_131, e118_132, e118_135, e118_136, e118_137, e118_140, e118_141, e118_144, e118_145, e118_146, e118_149, e118_152, e118_155, zpush, zopt_some, ↓reduceIte, List.getElem?_cons_succ, List.getElem?_cons_zero, beq_self_eq_true, true_and, and_true, Bool.true_and, Bool.and_true, Bool.false_and, Bool.and_false, nI_1, not_true_eq_false, not_false_eq_true, vp_narI]
    refine ih (i + 1) h3 M3 (by omega) ((V.to V2 rfl).to V3 rfl) (fun s hs => ?_) (fun s hs => ?_)
    · rw [V3.k 10 rfl, E2]
      by_cases e : s = i
      · subst e; rw [upd_s]
      · rw [upd_n e]; exact H1 s (by omega)
    · rw [E3]
      by_cases e : s = i
      · subst e; rw [upd_s]
      · rw [upd_n e, V2.k 11 rfl]; exact H2 s (by omega)
theorem l_M_fl1 {k : Nat} {l : List Nat} {L0 F0 : Nat → Int32} (hl : l.length ≤ 3) (hl2 : ∀ p ∈ l, p < 12) (h0 : List zC) (M0 : Nat → Nat → Int32) (hP : zPo M0 l) (hQ : ∀ h' M', zMv [10, 11] h0 M0 h' M' → M' 10 = incs L0 l → M' 11 = ffA F0 l l.length → Ev 118 109 [.ref 108, .int (nI k), .int (nI l.length)] [] (h', z) Q) :
    ∀ (j c : Nat) (h : List zC) (M : Nat → Nat → Int32), c + j = l.length → zMv [10, 11] h0 M0 h M → M 10 = incs L0 (l.take c) → M 11 = ffA F0 l c → Ev 118 57 [.ref 108, .int (nI k), .int (nI c)] [] (h, z) Q := by
  intro j
  induction j with
  | zero =>
    intro c h M hc V H1 H2
    have hc : c = l.length := by omega
    subst hc
    obtain ⟨o0, fd0, fd1, fd2, fd3, fd4, fd5, fd6, fd7, fd8, fd9, fd10, fd11, fd12, fd13, fd14, fd15, fd16, fd17, fd18, fd19, fd20, a0, a1, a2, a4, a5, a6, a7, a9, a10, a11, a14⟩ := V.mm.q
    have p8 : M 8 0 = nI l.length := (congrFun (V.k 8 rfl) 0).trans hP.1
    have e1 : nI l.length ≤ nI l.length := Int32.le_refl _
    rw [List.take_length] at H1
    rw [e118_57]
    simp only [e118_0, e118_1, e118_2, e118_5, e118_6, e118_7, e118_10, e118_11, e118_12, e118_13, e118_15, e118_18, e118_19, e118_22, e118_23, e118_24, e118_25, e118_26, e118_29, e118_30, e118_31, e118_32, e118_35, e118_38, e118_39, e118_40, e118_41, e118_42, e118_45, e118_46, e118_47, e118_50, e118_51, e118_52, e118_55, e118_56, e118_58, e118_59, e118_62, e118_65, e118_66, e118_69, e118_70, e118_73, e118_74, e118_75, e118_76, e118_77, e118_78, e118_79, e118_80, e118_81, e118_84, e118_85, e118_88, e118_89, e118_90, e118_91, e118_92, e118_93, e118_96, e118_97, e118_100, e118_101, e118_102, e118_103, e118_106, e118_110, e118_111, e118_114, e118_115, e118_118, e118_119, e118_122, e118_123, e118_124, e118_127, e118_128, e118_131, e118_132, e118_135, e118_136, e118_137, e118_140, e118_141, e118_144, e118_145, e118_146, e118_149, e118_152, e118_155, zpush, zopt_some, ↓reduceIte, List.getElem?_cons_succ, List.getElem?_cons_zero, beq_self_eq_true, true_and, and_true, Bool.true_and, Bool.and_true, Bool.false_and, Bool.and_false, nI_1, not_true_eq_false, not_false_eq_true, vp_narI, o0, ↓fd0, ↓fd1, ↓fd2, ↓fd3, ↓fd4, ↓fd5, ↓fd6, ↓fd7, ↓fd8, ↓fd9, ↓fd10, ↓fd11, ↓fd12, ↓fd13, ↓fd14, ↓fd15, ↓fd16, ↓fd17, ↓fd18, ↓fd19, ↓fd20, p8, e1]
    exact hQ h M V H1 H2
  | succ j ih =>
    intro c h M hc V H1 H2
    have hlt : c < l.length := by omega
    obtain ⟨o0, fd0, fd1, fd2, fd3, fd4, fd5, fd6, fd7, fd8, fd9, fd10, fd11, fd12, fd13, fd14, fd15, fd16, fd17, fd18, fd19, fd20, a0, a1, a2, a4, a5, a6, a7, a9, a10, a11, a14⟩ := V.mm.q
    have p8 : M 8 0 = nI l.length := (congrFun (V.k 8 rfl) 0).trans hP.1
    have hg : l[c]? = some (l.getD c 0) := by rw [List.getD_eq_getElem?_getD, List.getElem?_eq_getElem hlt]; rfl
    have p7 : M 7 c = nI (l.getD c 0) := (congrFun (V.k 7 rfl) c).trans (hP.2 c _ hg)
    have pl : l.getD c 0 < 12 := hl2 _ (List.mem_of_getElem? hg)
    have e1 : ¬ nI l.length ≤ nI c := nI_ge hlt (by omega)
    have e2 : zinb (nI c) 3 = true := zinb_nI (by omega) (by decide)
    have e3 : (nI c).toNatClampNeg = c := nI_clamp (by omega)
    have e4 : zinb (nI (l.getD c 0)) 12 = true := zinb_nI pl (by decide)
    have e5 : (nI (l.getD c 0)).toNatClampNeg = l.getD c 0 := nI_clamp (by omega)
    rw [e118_57]
    simp only [e118_0, e118_1, e118_2, e118_5, e118_6, e118_7, e118_10, e118_11, e118_12, e118_13, e118_15, e118_18, e118_19, e118_22, e118_23, e118_24, e118_25, e118_26, e118_29, e118_30, e118_31, e118_32, e118_35, e118_38, e118_39, e118_40, e118_41, e118_42, e118_45, e118_46, e118_47, e118_50, e118_51, e118_52, e118_55, e118_56, e118_58, e118_59, e118_62, e118_65, e118_66, e118_69, e118_70, e118_73, e118_74, e118_75, e118_76, e118_77, e118_78, e118_80, e118_81, e118_84, e118_85, e118_88, e118_89, e118_90, e118_91, e118_92, e118_93, e118_96, e118_97, e118_100, e118_101, e118_102, e118_103, e118_106, e118_109, e118_110, e118_111, e118_114, e118_115, e118_118, e118_119, e118_122, e118_123, e118_124, e118_127, e118_128, e118_131, e118_132, e118_135, e118_136, e118_137, e118_140, e118_141, e118_144, e118_145, e118_146, e118_149, e118_152, e118_155, zpush, zopt_some, ↓reduceIte, List.getElem?_cons_succ, List.getElem?_cons_zero, beq_self_eq_true, true_and, and_true, Bool.true_and, Bool.and_true, Bool.false_and, Bool.and_false, nI_1, not_true_eq_false, not_false_eq_true, vp_narI, o0, ↓fd0, ↓fd1, ↓fd2, ↓fd3, ↓fd4, ↓fd5, ↓fd6, ↓fd7, ↓fd8, ↓fd9, ↓fd10, ↓fd11, ↓fd12, ↓fd13, ↓fd14, ↓fd15, ↓fd16, ↓fd17, ↓fd18, ↓fd19, ↓fd20, ↓a7, ↓a10, p8, p7, e1, e2, e3, e4, e5]
    rw [e118_79]
    refine V.mm.w10 rfl pl (fun h2 M2 V2 E2 => ?_)
    obtain ⟨o0, fd0, fd1, fd2, fd3, fd4, fd5, fd6, fd7, fd8, fd9, fd10, fd11, fd12, fd13, fd14, fd15, fd16, fd17, fd18, fd19, fd20, a0, a1, a2, a4, a5, a6, a7, a9, a10, a11, a14⟩ := V2.mm.q
    have p7' : M2 7 c = nI (l.getD c 0) := by rw [V2.k 7 rfl]; exact p7
    have H1' : M2 10 = incs L0 (l.take (c + 1)) := by rw [E2, H1, take_s hlt, incs_app]
    have key : ∀ v : Int32, upd (M2 11) (l.getD c 0) (M2 11 (l.getD c 0) + v) = ffA F0 l (c + 1) → Ev 118 101 [.ref 108, .int (nI k), .int (nI c)] [.int v, .int (M2 11 (l.getD c 0)), .int (nI (l.getD c 0)), .ref 118] (h2, z) Q := by
      intro v hv
      simp only [e118_0, e118_1, e118_2, e118_5, e118_6, e118_7, e118_10, e118_11, e118_12, e118_13, e118_15, e118_18, e118_19, e118_22, e118_23, e118_24, e118_25, e118_26, e118_29, e118_30, e118_31, e118_32, e118_35, e118_38, e118_39, e118_40, e118_41, e118_42, e118_45, e118_46, e118_47, e118_50, e118_51, e118_52, e118_55, e118_56, e118_58, e118_59, e118_62, e118_65, e118_66, e118_69, e118_70, e118_73, e118_74, e118_75, e118_76, e118_77, e118_78, e118_79, e118_80, e118_81, e118_84, e118_85, e118_88, e118_89, e118_90, e118_91, e118_92, e118_93, e118_96, e118_97, e118_100, e118_101, e118_103, e118_106, e118_109, e118_110, e118_111, e118_114, e118_115, e118_118, e118_119, e118_122, e118_123, e118_124, e118_127, e118_128, e118_131, e118_132, e118_135, e118_136, e118_137, e118_140, e118_141, e118_144, e118_145, e118_146, e118_149, e118_152, e118_155, zpush, zopt_some, ↓reduceIte, List.getElem?_cons_succ, List.getElem?_cons_zero, beq_self_eq_true, true_and, and_true, Bool.true_and, Bool.and_true, Bool.false_and, Bool.and_false, nI_1, not_true_eq_false, not_false_eq_true, vp_narI, o0, ↓fd0, ↓fd1, ↓fd2, ↓fd3, ↓fd4, ↓fd5, ↓fd6, ↓fd7, ↓fd8, ↓fd9, ↓fd10, ↓fd11, ↓fd12, ↓fd13, ↓fd14, ↓fd15, ↓fd16, ↓fd17, ↓fd18, ↓fd19, ↓fd20]
      rw [e118_102]
      refine V2.mm.w11 rfl pl (fun h3 M3 V3 E3 => ?_)
      simp only [e118_0, e118_1, e118_2, e118_5, e118_6, e118_7, e118_10, e118_11, e118_12, e118_13, e118_15, e118_18, e118_19, e118_22, e118_23, e118_24, e118_25, e118_26, e118_29, e118_30, e118_31, e118_32, e118_35, e118_38, e118_39, e118_40, e118_41, e118_42, e118_45, e118_46, e118_47, e118_50, e118_51, e118_52, e118_55, e118_56, e118_58, e118_59, e118_62, e118_65, e118_66, e118_69, e118_70, e118_73, e118_74, e118_75, e118_76, e118_77, e118_78, e118_79, e118_80, e118_81, e118_84, e118_85, e118_88, e118_89, e118_90, e118_91, e118_92, e118_93, e118_96, e118_97, e118_100, e118_101, e118_103, e118_106, e118_109, e118_110, e118_111, e118_114, e118_115, e118_118, e118_119, e118_122, e118_123, e118_124, e118_127, e118_128, e118_131, e118_132, e118_135, e118_136, e118_137, e118_140, e118_141, e118_144, e118_145, e118_146, e118_149, e118_152, e118_155, zpush, zopt_some, ↓reduceIte, List.getElem?_cons_succ, List.getElem?_cons_zero, beq_self_eq_true, true_and, and_true, Bool.true_and, Bool.and_true, Bool.false_and, Bool.and_false, nI_1, not_true_eq_false, not_false_eq_true, vp_narI]
      exact ih (c + 1) h3 M3 (by omega) ((V.to V2 rfl).to V3 rfl) (by rw [V3.k 10 rfl]; exact H1') (E3.trans hv)
    have H2' : M2 11 = ffA F0 l c := (V2.k 11 rfl).trans H2
    by_cases hc0 : c = 0
    · subst hc0
      have e0 : nI 0 = 0 := rfl
      have K := key 1 (by rw [H2']; unfold ffA; rw [if_pos rfl, if_neg (by decide)])
      rw [e0] at K
      simp only [e118_0, e118_1, e118_2, e118_5, e118_6, e118_7, e118_10, e118_11, e118_12, e118_13, e118_15, e118_18, e118_19, e118_22, e118_23, e118_24, e118_25, e118_26, e118_29, e118_30, e118_31, e118_32, e118_35, e118_38, e118_39, e118_40, e118_41, e118_42, e118_45, e118_46, e118_47, e118_50, e118_51, e118_52, e118_55, e118_56, e118_58, e118_59, e118_62, e118_65, e118_66, e118_69, e118_70, e118_73, e118_74, e118_75, e118_76, e118_77, e118_78, e118_79, e118_80, e118_81, e118_84, e118_85, e118_88, e118_89, e118_90, e118_91, e118_92, e118_93, e118_96, e118_97, e118_100, e118_102, e118_103, e118_106, e118_109, e118_110, e118_111, e118_114, e118_115, e118_118, e118_119, e118_122, e118_123, e118_124, e118_127, e118_128, e118_131, e118_132, e118_135, e118_136, e118_137, e118_140, e118_141, e118_144, e118_145, e118_146, e118_149, e118_152, e118_155, zpush, zopt_some, ↓reduceIte, List.getElem?_cons_succ, List.getElem?_cons_zero, beq_self_eq_true, true_and, and_true, Bool.true_and, Bool.and_true, Bool.false_and, Bool.and_false, nI_1, not_true_eq_false, not_false_eq_true, vp_narI, o0, ↓fd0, ↓fd1, ↓fd2, ↓fd3, ↓fd4, ↓fd5, ↓fd6, ↓fd7, ↓fd8, ↓fd9, ↓fd10, ↓fd11, ↓fd12, ↓fd13, ↓fd14, ↓fd15, ↓fd16, ↓fd17, ↓fd18, ↓fd19, ↓fd20, ↓a7, ↓a11, p7', e0, e2, e3, e4, e5]
      rw [e0] at e2 e3
      simp only [e118_0, e118_1, e118_2, e118_5, e118_6, e118_7, e118_10, e118_11, e118_12, e118_13, e118_15, e118_18, e118_19, e118_22, e118_23, e118_24, e118_25, e118_26, e118_29, e118_30, e118_31, e118_32, e118_35, e118_38, e118_39, e118_40, e118_41, e118_42, e118_45, e118_46, e118_47, e118_50, e118_51, e118_52, e118_55, e118_56, e118_58, e118_59, e118_62, e118_65, e118_66, e118_69, e118_70, e118_73, e118_74, e118_75, e118_76, e118_77, e118_78, e118_79, e118_80, e118_81, e118_84, e118_85, e118_88, e118_89, e118_90, e118_91, e118_92, e118_93, e118_96, e118_97, e118_100, e118_102, e118_103, e118_106, e118_109, e118_110, e118_111, e118_114, e118_115, e118_118, e118_119, e118_122, e118_123, e118_124, e118_127, e118_128, e118_131, e118_132, e118_135, e118_136, e118_137, e118_140, e118_141, e118_144, e118_145, e118_146, e118_149, e118_152, e118_155, zpush, zopt_some, ↓reduceIte, List.getElem?_cons_succ, List.getElem?_cons_zero, beq_self_eq_true, true_and, and_true, Bool.true_and, Bool.and_true, Bool.false_and, Bool.and_false, nI_1, not_true_eq_false, not_false_eq_true, vp_narI, o0, ↓fd0, ↓fd1, ↓fd2, ↓fd3, ↓fd4, ↓fd5, ↓fd6, ↓fd7, ↓fd8, ↓fd9, ↓fd10, ↓fd11, ↓fd12, ↓fd13, ↓fd14, ↓fd15, ↓fd16, ↓fd17, ↓fd18, ↓fd19, ↓fd20, ↓a7, ↓a11, p7', e2, e3, e4, e5]
      exact K
    · have e0 : ¬ nI c = 0 := nI_ne0 (by omega) (by omega)
      have K := key 0 (by rw [H2', Int32.add_zero, upd_same]; unfold ffA; rw [if_neg hc0, if_neg (by omega)])
      simp only [e118_0, e118_1, e118_2, e118_5, e118_6, e118_7, e118_10, e118_11, e118_12, e118_13, e118_15, e118_18, e118_19, e118_22, e118_23, e118_24, e118_25, e118_26, e118_29, e118_30, e118_31, e118_32, e118_35, e118_38, e118_39, e118_40, e118_41, e118_42, e118_45, e118_46, e118_47, e118_50, e118_51, e118_52, e118_55, e118_56, e118_58, e118_59, e118_62, e118_65, e118_66, e118_69, e118_70, e118_73, e118_74, e118_75, e118_76, e118_77, e118_78, e118_79, e118_80, e118_81, e118_84, e118_85, e118_88, e118_89, e118_90, e118_91, e118_92, e118_93, e118_96, e118_97, e118_100, e118_102, e118_103, e118_106, e118_109, e118_110, e118_111, e118_114, e118_115, e118_118, e118_119, e118_122, e118_123, e118_124, e118_127, e118_128, e118_131, e118_132, e118_135, e118_136, e118_137, e118_140, e118_141, e118_144, e118_145, e118_146, e118_149, e118_152, e118_155, zpush, zopt_some, ↓reduceIte, List.getElem?_cons_succ, List.getElem?_cons_zero, beq_self_eq_true, true_and, and_true, Bool.true_and, Bool.and_true, Bool.false_and, Bool.and_false, nI_1, not_true_eq_false, not_false_eq_true, vp_narI, o0, ↓fd0, ↓fd1, ↓fd2, ↓fd3, ↓fd4, ↓fd5, ↓fd6, ↓fd7, ↓fd8, ↓fd9, ↓fd10, ↓fd11, ↓fd12, ↓fd13, ↓fd14, ↓fd15, ↓fd16, ↓fd17, ↓fd18, ↓fd19, ↓fd20, ↓a7, ↓a11, p7', e0, e2, e3, e4, e5, not_false_eq_true]
      exact K
theorem l_M_findLoads (hg : zG g) (h0 : List zC) (M0 : Nat → Nat → Int32) (hQ : ∀ h' M', zMv [6, 7, 8, 10, 11, 12, 13] h0 M0 h' M' → M' 0 = g → zLd M' g → Q none (h', z)) :
    ∀ (j i : Nat) (v2 : Value) (h : List zC) (M : Nat → Nat → Int32), i + j = gN g 3 → zMv [6, 7, 8, 10, 11, 12, 13] h0 M0 h M → M 0 = g → (∀ s, s < 12 → M 10 s = ldF g i s) → (∀ s, s < 12 → M 11 s = nfc g (nI s) i) → M 12 0 = tot g i → M 13 0 = nbl g (g 0) i → Ev 118 40 [.ref 108, .int (nI i), v2] [] (h, z) Q := by
  obtain ⟨h3, b3⟩ := hg.2.2.2.1
  intro j
  induction j with
  | zero =>
    intro i v2 h M hi V eg H1 H2 H3 H4
    have hi : i = gN g 3 := by omega
    subst hi
    obtain ⟨o0, fd0, fd1, fd2, fd3, fd4, fd5, fd6, fd7, fd8, fd9, fd10, fd11, fd12, fd13, fd14, fd15, fd16, fd17, fd18, fd19, fd20, a0, a1, a2, a4, a5, a6, a7, a9, a10, a11, a14⟩ := V.mm.q
    rw [eg] at a0
    have e1 : g 3 ≤ nI (gN g 3) := by rw [← h3]; exact Int32.le_refl _
    rw [e118_40]
    simp only [e118_0, e118_1, e118_2, e118_5, e118_6, e118_7, e118_10, e118_11, e118_12, e118_13, e118_15, e118_18, e118_19, e118_22, e118_23, e118_24, e118_25, e118_26, e118_29, e118_30, e118_31, e118_32, e118_35, e118_38, e118_39, e118_41, e118_42, e118_45, e118_46, e118_47, e118_50, e118_51, e118_52, e118_55, e118_56, e118_57, e118_58, e118_59, e118_62, e118_65, e118_66, e118_69, e118_70, e118_73, e118_74, e118_75, e118_76, e118_77, e118_78, e118_79, e118_80, e118_81, e118_84, e118_85, e118_88, e118_89, e118_90, e118_91, e118_92, e118_93, e118_96, e118_97, e118_100, e118_101, e118_102, e118_103, e118_106, e118_109, e118_110, e118_111, e118_114, e118_115, e118_118, e118_119, e118_122, e118_123, e118_124, e118_127, e118_128, e118_131, e118_132, e118_135, e118_136, e118_137, e118_140, e118_141, e118_144, e118_145, e118_146, e118_149, e118_152, e118_155, zpush, zopt_some, ↓reduceIte, List.getElem?_cons_succ, List.getElem?_cons_zero, beq_self_eq_true, true_and, and_true, Bool.true_and, Bool.and_true, Bool.false_and, Bool.and_false, nI_1, not_true_eq_false, not_false_eq_true, vp_narI, k5, k17, k29, k41, k81, k121, j484_0, cl_0, j484_1, cl_1, j484_2, cl_2, j484_3, cl_3, j484_4, cl_4, o0, ↓fd0, ↓fd1, ↓fd2, ↓fd3, ↓fd4, ↓fd5, ↓fd6, ↓fd7, ↓fd8, ↓fd9, ↓fd10, ↓fd11, ↓fd12, ↓fd13, ↓fd14, ↓fd15, ↓fd16, ↓fd17, ↓fd18, ↓fd19, ↓fd20, ↓a0, e1]
    exact hQ h M V eg ⟨H1, H2, H3, H4⟩
  | succ j ih =>
    intro i v2 h M hi V eg H1 H2 H3 H4
    obtain ⟨o0, fd0, fd1, fd2, fd3, fd4, fd5, fd6, fd7, fd8, fd9, fd10, fd11, fd12, fd13, fd14, fd15, fd16, fd17, fd18, fd19, fd20, a0, a1, a2, a4, a5, a6, a7, a9, a10, a11, a14⟩ := V.mm.q
    rw [eg] at a0
    have hlt : i < gN g 3 := by omega
    have e1 : ¬ g 3 ≤ nI i := by rw [h3]; exact nI_ge hlt (by omega)
    rw [e118_40]
    simp only [e118_0, e118_1, e118_2, e118_5, e118_6, e118_7, e118_10, e118_11, e118_12, e118_13, e118_15, e118_18, e118_19, e118_22, e118_23, e118_24, e118_25, e118_26, e118_29, e118_30, e118_31, e118_32, e118_35, e118_38, e118_39, e118_41, e118_42, e118_45, e118_46, e118_47, e118_50, e118_51, e118_52, e118_55, e118_56, e118_57, e118_58, e118_59, e118_62, e118_65, e118_66, e118_69, e118_70, e118_73, e118_74, e118_75, e118_76, e118_77, e118_78, e118_79, e118_80, e118_81, e118_84, e118_85, e118_88, e118_89, e118_90, e118_91, e118_92, e118_93, e118_96, e118_97, e118_100, e118_101, e118_102, e118_103, e118_106, e118_109, e118_110, e118_111, e118_114, e118_115, e118_118, e118_119, e118_122, e118_123, e118_124, e118_127, e118_128, e118_131, e118_132, e118_135, e118_136, e118_137, e118_140, e118_141, e118_144, e118_145, e118_146, e118_149, e118_152, e118_155, zpush, zopt_some, ↓reduceIte, List.getElem?_cons_succ, List.getElem?_cons_zero, beq_self_eq_true, true_and, and_true, Bool.true_and, Bool.and_true, Bool.false_and, Bool.and_false, nI_1, not_true_eq_false, not_false_eq_true, vp_narI, k5, k17, k29, k41, k81, k121, j484_0, cl_0, j484_1, cl_1, j484_2, cl_2, j484_3, cl_3, j484_4, cl_4, o0, ↓fd0, ↓fd1, ↓fd2, ↓fd3, ↓fd4, ↓fd5, ↓fd6, ↓fd7, ↓fd8, ↓fd9, ↓fd10, ↓fd11, ↓fd12, ↓fd13, ↓fd14, ↓fd15, ↓fd16, ↓fd17, ↓fd18, ↓fd19, ↓fd20, ↓a0, e1]
    refine c_M_findPlacesAt V.mm hg eg hlt (fun h2 M2 V2 P2 => ?_)
    obtain ⟨q1, q2⟩ := plK_ok hg i
    simp only [e118_0, e118_1, e118_2, e118_5, e118_6, e118_7, e118_10, e118_11, e118_12, e118_13, e118_15, e118_18, e118_19, e118_22, e118_23, e118_24, e118_25, e118_26, e118_29, e118_30, e118_31, e118_32, e118_35, e118_38, e118_39, e118_41, e118_42, e118_45, e118_46, e118_47, e118_50, e118_51, e118_52, e118_55, e118_56, e118_58, e118_59, e118_62, e118_65, e118_66, e118_69, e118_70, e118_73, e118_74, e118_75, e118_76, e118_77, e118_78, e118_79, e118_80, e118_81, e118_84, e118_85, e118_88, e118_89, e118_90, e118_91, e118_92, e118_93, e118_96, e118_97, e118_100, e118_101, e118_102, e118_103, e118_106, e118_109, e118_110, e118_111, e118_114, e118_115, e118_118, e118_119, e118_122, e118_123, e118_124, e118_127, e118_128, e118_131, e118_132, e118_135, e118_136, e118_137, e118_140, e118_141, e118_144, e118_145, e118_146, e118_149, e118_152, e118_155, zpush, zopt_some, ↓reduceIte, List.getElem?_cons_succ, List.getElem?_cons_zero, beq_self_eq_true, true_and, and_true, Bool.true_and, Bool.and_true, Bool.false_and, Bool.and_false, nI_1, not_true_eq_false, not_false_eq_true, vp_narI]
    refine l_M_fl1 (k := i) (l := plK g i) (L0 := M2 10) (F0 := M2 11) q2 q1 h2 M2 P2 (fun h3' M3 V3 E10 E11 => ?_) (plK g i).length 0 h2 M2 (by omega) V2.mm.rf (by rw [List.take_zero]; rfl) (by unfold ffA; rw [if_pos rfl])
    have W3 := (V.to V2 rfl).to V3 rfl
    have g3' : M3 0 = g := by rw [V3.k 0 rfl, V2.k 0 rfl, eg]
    obtain ⟨o0, fd0, fd1, fd2, fd3, fd4, fd5, fd6, fd7, fd8, fd9, fd10, fd11, fd12, fd13, fd14, fd15, fd16, fd17, fd18, fd19, fd20, a0, a1, a2, a4, a5, a6, a7, a9, a10, a11, a14⟩ := V3.mm.q
    have p8 : M3 8 0 = nI (plK g i).length := (congrFun (V3.k 8 rfl) 0).trans P2.1
    have p12 : M3 12 0 = tot g i := by rw [V3.k 12 rfl, V2.k 12 rfl]; exact H3
    have p13 : M3 13 0 = nbl g (g 0) i := by rw [V3.k 13 rfl, V2.k 13 rfl]; exact H4
    rw [e118_109]
    simp only [e118_0, e118_1, e118_2, e118_5, e118_6, e118_7, e118_10, e118_11, e118_12, e118_13, e118_15, e118_18, e118_19, e118_22, e118_23, e118_24, e118_25, e118_26, e118_29, e118_30, e118_31, e118_32, e118_35, e118_38, e118_39, e118_41, e118_42, e118_45, e118_46, e118_47, e118_50, e118_51, e118_52, e118_55, e118_56, e118_57, e118_58, e118_59, e118_62, e118_65, e118_66, e118_69, e118_70, e118_73, e118_74, e118_75, e118_76, e118_77, e118_78, e118_79, e118_80, e118_81, e118_84, e118_85, e118_88, e118_89, e118_90, e118_91, e118_92, e118_93, e118_96, e118_97, e118_100, e118_101, e118_102, e118_103, e118_106, e118_110, e118_111, e118_114, e118_115, e118_118, e118_119, e118_123, e118_124, e118_127, e118_128, e118_131, e118_132, e118_135, e118_136, e118_137, e118_140, e118_141, e118_144, e118_145, e118_146, e118_149, e118_152, e118_155, zpush, zopt_some, ↓reduceIte, List.getElem?_cons_succ, List.getElem?_cons_zero, beq_self_eq_true, true_and, and_true, Bool.true_and, Bool.and_true, Bool.false_and, Bool.and_false, nI_1, not_true_eq_false, not_false_eq_true, vp_narI, o0, ↓fd0, ↓fd1, ↓fd2, ↓fd3, ↓fd4, ↓fd5, ↓fd6, ↓fd7, ↓fd8, ↓fd9, ↓fd10, ↓fd11, ↓fd12, ↓fd13, ↓fd14, ↓fd15, ↓fd16, ↓fd17, ↓fd18, ↓fd19, ↓fd20, p8, p12]
    refine V3.mm.p12 (fun h4 M4 V4 E4 => ?_)
    have g4 : M4 0 = g := (V4.k 0 rfl).trans g3'
    obtain ⟨o0, fd0, fd1, fd2, fd3, fd4, fd5, fd6, fd7, fd8, fd9, fd10, fd11, fd12, fd13, fd14, fd15, fd16, fd17, fd18, fd19, fd20, a0, a1, a2, a4, a5, a6, a7, a9, a10, a11, a14⟩ := V4.mm.q
    rw [g4] at a0
    have p8' : M4 8 0 = nI (plK g i).length := (congrFun (V4.k 8 rfl) 0).trans p8
    have p13' : M4 13 0 = nbl g (g 0) i := (congrFun (V4.k 13 rfl) 0).trans p13
    have F10 : ∀ s, s < 12 → M4 10 s = ldF g (i + 1) s := by
      intro s hs
      rw [V4.k 10 rfl, E10]
      exact incs_cong (plK g i) (M2 10) (ldF g i) (fun s hs => by rw [V2.k 10 rfl]; exact H1 s hs) q1 s hs
    have F11 : ∀ s, s < 12 → M4 11 s = nfc g (nI s) (i + 1) := by
      intro s hs
      rw [V4.k 11 rfl, E11, nfc, ← H2 s hs]
      have e11 : M2 11 s = M 11 s := by rw [V2.k 11 rfl]
      unfold ffA plG
      by_cases hl : (plK g i).length = 0
      · rw [if_pos hl, hl, show zinb 0 0 = false from by decide, e11]
        simp only [Bool.false_eq_true, ↓reduceIte]
        rw [if_neg (fun e => nI_ne6 (i := s) (by omega) e.symm), Int32.add_zero]
      · have zl : zinb 0 (plK g i).length = true := zinb_nI (k := 0) (by omega) (by omega)
        have pm : (plK g i).getD 0 0 < 12 := q1 _ (List.mem_of_getElem? (by rw [List.getD_eq_getElem?_getD, List.getElem?_eq_getElem (by omega)]; rfl) (i := 0))
        rw [if_neg hl, if_pos zl, show (0 : Int32).toNatClampNeg = 0 from rfl]
        by_cases e : s = (plK g i).getD 0 0
        · subst e; rw [upd_s, if_pos rfl, e11]
        · rw [upd_n e, e11, if_neg (fun e2 => e ((nI_eq (by omega) (by omega)).mp e2).symm), Int32.add_zero]
    have key : ∀ v : Int32, nbl g (g 0) i + v = nbl g (g 0) (i + 1) → Ev 118 145 [.ref 108, .int (nI i), .int (nI (plK g i).length)] [.int v, .int (nbl g (g 0) i), .ref 108] (h4, z) Q := by
      intro v hv
      simp only [e118_0, e118_1, e118_2, e118_5, e118_6, e118_7, e118_10, e118_11, e118_12, e118_13, e118_15, e118_18, e118_19, e118_22, e118_23, e118_24, e118_25, e118_26, e118_29, e118_30, e118_31, e118_32, e118_35, e118_38, e118_39, e118_41, e118_42, e118_45, e118_46, e118_47, e118_50, e118_51, e118_52, e118_55, e118_56, e118_57, e118_58, e118_59, e118_62, e118_65, e118_66, e118_69, e118_70, e118_73, e118_74, e118_75, e118_76, e118_77, e118_78, e118_79, e118_80, e118_81, e118_84, e118_85, e118_88, e118_89, e118_90, e118_91, e118_92, e118_93, e118_96, e118_97, e118_100, e118_101, e118_102, e118_103, e118_106, e118_109, e118_110, e118_111, e118_114, e118_115, e118_118, e118_119, e118_122, e118_123, e118_124, e118_127, e118_128, e118_131, e118_132, e118_135, e118_136, e118_137, e118_140, e118_141, e118_144, e118_145, e118_146, e118_149, e118_152, e118_155, zpush, zopt_some, ↓reduceIte, List.getElem?_cons_succ, List.getElem?_cons_zero, beq_self_eq_true, true_and, and_true, Bool.true_and, Bool.and_true, Bool.false_and, Bool.and_false, nI_1, not_true_eq_false, not_false_eq_true, vp_narI, hv]
      refine V4.mm.p13 (fun h5 M5 V5 E5 => ?_)
      exact ih (i + 1) _ h5 M5 (by omega) ((W3.to V4 rfl).to V5 rfl) ((V5.k 0 rfl).trans g4) (fun s hs => by rw [V5.k 10 rfl]; exact F10 s hs) (fun s hs => by rw [V5.k 11 rfl]; exact F11 s hs) (by rw [V5.k 12 rfl, E4]; rfl) E5
    rw [e118_122]
    by_cases hc : nI (plK g i).length < g 0
    · have hc' : ¬ g 0 ≤ nI (plK g i).length := Int32.not_le.mpr hc
      simp only [e118_0, e118_1, e118_2, e118_5, e118_6, e118_7, e118_10, e118_11, e118_12, e118_13, e118_15, e118_18, e118_19, e118_22, e118_23, e118_24, e118_25, e118_26, e118_29, e118_30, e118_31, e118_32, e118_35, e118_38, e118_39, e118_41, e118_42, e118_45, e118_46, e118_47, e118_50, e118_51, e118_52, e118_55, e118_56, e118_57, e118_58, e118_59, e118_62, e118_65, e118_66, e118_69, e118_70, e118_73, e118_74, e118_75, e118_76, e118_77, e118_78, e118_79, e118_80, e118_81, e118_84, e118_85, e118_88, e118_89, e118_90, e118_91, e118_92, e118_93, e118_96, e118_97, e118_100, e118_101, e118_102, e118_103, e118_106, e118_109, e118_110, e118_111, e118_114, e118_115, e118_118, e118_119, e118_123, e118_124, e118_127, e118_128, e118_131, e118_132, e118_135, e118_136, e118_137, e118_140, e118_141, e118_144, e118_146, e118_149, e118_152, e118_155, zpush, zopt_some, ↓reduceIte, List.getElem?_cons_succ, List.getElem?_cons_zero, beq_self_eq_true, true_and, and_true, Bool.true_and, Bool.and_true, Bool.false_and, Bool.and_false, nI_1, not_true_eq_false, not_false_eq_true, vp_narI, k5, k17, k29, k41, k81, k121, j484_0, cl_0, j484_1, cl_1, j484_2, cl_2, j484_3, cl_3, j484_4, cl_4, o0, ↓fd0, ↓fd1, ↓fd2, ↓fd3, ↓fd4, ↓fd5, ↓fd6, ↓fd7, ↓fd8, ↓fd9, ↓fd10, ↓fd11, ↓fd12, ↓fd13, ↓fd14, ↓fd15, ↓fd16, ↓fd17, ↓fd18, ↓fd19, ↓fd20, ↓a0, p8', p13', hc']
      exact key 1 (by rw [nbl, if_pos hc])
    · have hc' : g 0 ≤ nI (plK g i).length := Int32.not_lt.mp hc
      simp only [e118_0, e118_1, e118_2, e118_5, e118_6, e118_7, e118_10, e118_11, e118_12, e118_13, e118_15, e118_18, e118_19, e118_22, e118_23, e118_24, e118_25, e118_26, e118_29, e118_30, e118_31, e118_32, e118_35, e118_38, e118_39, e118_41, e118_42, e118_45, e118_46, e118_47, e118_50, e118_51, e118_52, e118_55, e118_56, e118_57, e118_58, e118_59, e118_62, e118_65, e118_66, e118_69, e118_70, e118_73, e118_74, e118_75, e118_76, e118_77, e118_78, e118_79, e118_80, e118_81, e118_84, e118_85, e118_88, e118_89, e118_90, e118_91, e118_92, e118_93, e118_96, e118_97, e118_100, e118_101, e118_102, e118_103, e118_106, e118_109, e118_110, e118_111, e118_114, e118_115, e118_118, e118_119, e118_123, e118_124, e118_127, e118_128, e118_131, e118_132, e118_135, e118_136, e118_137, e118_140, e118_141, e118_144, e118_146, e118_149, e118_152, e118_155, zpush, zopt_some, ↓reduceIte, List.getElem?_cons_succ, List.getElem?_cons_zero, beq_self_eq_true, true_and, and_true, Bool.true_and, Bool.and_true, Bool.false_and, Bool.and_false, nI_1, not_true_eq_false, not_false_eq_true, vp_narI, k5, k17, k29, k41, k81, k121, j484_0, cl_0, j484_1, cl_1, j484_2, cl_2, j484_3, cl_3, j484_4, cl_4, o0, ↓fd0, ↓fd1, ↓fd2, ↓fd3, ↓fd4, ↓fd5, ↓fd6, ↓fd7, ↓fd8, ↓fd9, ↓fd10, ↓fd11, ↓fd12, ↓fd13, ↓fd14, ↓fd15, ↓fd16, ↓fd17, ↓fd18, ↓fd19, ↓fd20, ↓a0, p8', p13', hc']
      exact key 0 (by rw [nbl, if_neg hc])
theorem c_M_findLoads (hM : zMM h M) (hg : zG g) (eg : M 0 = g) (hQ : ∀ h' M', zMv [6, 7, 8, 10, 11, 12, 13] h M h' M' → M' 0 = g → zLd M' g → Q none (h', z)) : Ev 118 0 [.ref 108, zU, zU] [] (h, z) Q := by
  simp only [e118_0, e118_1, e118_2, e118_6, e118_7, e118_10, e118_11, e118_13, e118_15, e118_18, e118_19, e118_22, e118_23, e118_24, e118_25, e118_26, e118_29, e118_30, e118_31, e118_32, e118_35, e118_38, e118_39, e118_40, e118_41, e118_42, e118_45, e118_46, e118_47, e118_50, e118_51, e118_52, e118_55, e118_56, e118_57, e118_58, e118_59, e118_62, e118_65, e118_66, e118_69, e118_70, e118_73, e118_74, e118_75, e118_76, e118_77, e118_78, e118_79, e118_80, e118_81, e118_84, e118_85, e118_88, e118_89, e118_90, e118_91, e118_92, e118_93, e118_96, e118_97, e118_100, e118_101, e118_102, e118_103, e118_106, e118_109, e118_110, e118_111, e118_114, e118_115, e118_118, e118_119, e118_122, e118_123, e118_124, e118_127, e118_128, e118_131, e118_132, e118_135, e118_136, e118_137, e118_140, e118_141, e118_144, e118_145, e118_146, e118_149, e118_152, e118_155, zpush, zopt_some, ↓reduceIte, List.getElem?_cons_succ, List.getElem?_cons_zero, beq_self_eq_true, true_and, and_true, Bool.true_and, Bool.and_true, Bool.false_and, Bool.and_false, nI_1, not_true_eq_false, not_false_eq_true, vp_narI]
  refine hM.p12 (fun h1 M1 V1 E1 => ?_)
  obtain ⟨o0, fd0, fd1, fd2, fd3, fd4, fd5, fd6, fd7, fd8, fd9, fd10, fd11, fd12, fd13, fd14, fd15, fd16, fd17, fd18, fd19, fd20, a0, a1, a2, a4, a5, a6, a7, a9, a10, a11, a14⟩ := V1.mm.q
  rw [e118_5]
  simp only [e118_0, e118_1, e118_2, e118_6, e118_7, e118_10, e118_11, e118_13, e118_15, e118_18, e118_19, e118_22, e118_23, e118_24, e118_25, e118_26, e118_29, e118_30, e118_31, e118_32, e118_35, e118_38, e118_39, e118_40, e118_41, e118_42, e118_45, e118_46, e118_47, e118_50, e118_51, e118_52, e118_55, e118_56, e118_57, e118_58, e118_59, e118_62, e118_65, e118_66, e118_69, e118_70, e118_73, e118_74, e118_75, e118_76, e118_77, e118_78, e118_79, e118_80, e118_81, e118_84, e118_85, e118_88, e118_89, e118_90, e118_91, e118_92, e118_93, e118_96, e118_97, e118_100, e118_101, e118_102, e118_103, e118_106, e118_109, e118_110, e118_111, e118_114, e118_115, e118_118, e118_119, e118_122, e118_123, e118_124, e118_127, e118_128, e118_131, e118_132, e118_135, e118_136, e118_137, e118_140, e118_141, e118_144, e118_145, e118_146, e118_149, e118_152, e118_155, zpush, zopt_some, ↓reduceIte, List.getElem?_cons_succ, List.getElem?_cons_zero, beq_self_eq_true, true_and, and_true, Bool.true_and, Bool.and_true, Bool.false_and, Bool.and_false, nI_1, not_true_eq_false, not_false_eq_true, vp_narI]
  refine V1.mm.p13 (fun h2 M2 V2 E2 => ?_)
  refine l_M_fl0 h2 M2 (fun h3 M3 V3 Z1 Z2 => ?_) 12 0 h2 M2 (by omega) V2.mm.rf (fun s hs => absurd hs (by omega)) (fun s hs => absurd hs (by omega))
  rw [e118_38]
  simp only [e118_0, e118_1, e118_2, e118_5, e118_6, e118_7, e118_10, e118_11, e118_12, e118_13, e118_15, e118_18, e118_19, e118_22, e118_23, e118_24, e118_25, e118_26, e118_29, e118_30, e118_31, e118_32, e118_35, e118_39, e118_41, e118_42, e118_45, e118_46, e118_47, e118_50, e118_51, e118_52, e118_55, e118_56, e118_57, e118_58, e118_59, e118_62, e118_65, e118_66, e118_69, e118_70, e118_73, e118_74, e118_75, e118_76, e118_77, e118_78, e118_79, e118_80, e118_81, e118_84, e118_85, e118_88, e118_89, e118_90, e118_91, e118_92, e118_93, e118_96, e118_97, e118_100, e118_101, e118_102, e118_103, e118_106, e118_109, e118_110, e118_111, e118_114, e118_115, e118_118, e118_119, e118_122, e118_123, e118_124, e118_127, e118_128, e118_131, e118_132, e118_135, e118_136, e118_137, e118_140, e118_141, e118_144, e118_145, e118_146, e118_149, e118_152, e118_155, zpush, zopt_some, ↓reduceIte, List.getElem?_cons_succ, List.getElem?_cons_zero, beq_self_eq_true, true_and, and_true, Bool.true_and, Bool.and_true, Bool.false_and, Bool.and_false, nI_1, not_true_eq_false, not_false_eq_true, vp_narI]
  exact l_M_findLoads hg h M hQ (gN g 3) 0 _ h3 M3 (by omega) (((V1.mono (T' := [6, 7, 8, 10, 11, 12, 13]) rfl).to V2 rfl).to V3 rfl) (by rw [V3.k 0 rfl, V2.k 0 rfl, V1.k 0 rfl, eg]) Z1 Z2 (by rw [V3.k 12 rfl, V2.k 12 rfl, E1]; rfl) (by rw [V3.k 13 rfl, E2]; rfl)
theorem c_M_fairShare {s : Nat} (hM : zMM h M) (hg : zG g) (eg : M 0 = g) (hs : s < gN g 2) (hL : zLd M g) : Ev 120 0 [.ref 108, .int (nI s)] [] (h, z) Q = Q (some (.int (fsh g s))) (h, z) := by
  have b2 := hg.2.2.1.2
  obtain ⟨o0, fd0, fd1, fd2, fd3, fd4, fd5, fd6, fd7, fd8, fd9, fd10, fd11, fd12, fd13, fd14, fd15, fd16, fd17, fd18, fd19, fd20, a0, a1, a2, a4, a5, a6, a7, a9, a10, a11, a14⟩ := hM.q
  have hT := fun (Q : Option Value → zX → Prop) => c_M_takesPart (s := s) (z := z) (Q := Q) hM (by omega)
  have hW := fun (Q : Option Value → zX → Prop) => c_M_weights (z := z) (Q := Q) hM (by rw [eg]; exact hg)
  rw [eg] at hT hW a0
  have e1 : zinb (nI (17 + s)) 484 = true := zinb_nI (by omega) (by decide)
  have e2 : (nI (17 + s)).toNatClampNeg = 17 + s := nI_clamp (by omega)
  unfold fsh
  by_cases h1 : tp g s = true
  · have h2 := wsum_pos hg hs h1
    have h3 : ¬ wsum g (gN g 2) = 0 := fun e => by rw [e] at h2; exact absurd h2 (by decide)
    simp only [e120_0, e120_1, e120_2, e120_5, e120_8, e120_11, e120_12, e120_15, e120_16, e120_17, e120_20, e120_22, e120_23, e120_24, e120_25, e120_26, e120_27, e120_30, e120_31, e120_34, e120_35, zpush, zopt_some, ↓reduceIte, List.getElem?_cons_succ, List.getElem?_cons_zero, beq_self_eq_true, true_and, and_true, Bool.true_and, Bool.and_true, Bool.false_and, Bool.and_false, nI_1, not_true_eq_false, not_false_eq_true, vp_narI, k5, k17, k29, k41, k81, k121, j484_0, cl_0, j484_1, cl_1, j484_2, cl_2, j484_3, cl_3, j484_4, cl_4, o0, ↓fd0, ↓fd1, ↓fd2, ↓fd3, ↓fd4, ↓fd5, ↓fd6, ↓fd7, ↓fd8, ↓fd9, ↓fd10, ↓fd11, ↓fd12, ↓fd13, ↓fd14, ↓fd15, ↓fd16, ↓fd17, ↓fd18, ↓fd19, ↓fd20, ↓a0, hT, hW, h1, h3, e1, e2, hL.2.2.1, zb_t, (show ¬ (1 : Int32) = 0 by decide), not_false_eq_true]
  · rw [if_neg h1]
    rw [Bool.not_eq_true] at h1
    simp only [e120_0, e120_1, e120_2, e120_5, e120_8, e120_11, e120_12, e120_15, e120_16, e120_17, e120_20, e120_22, e120_23, e120_24, e120_25, e120_26, e120_27, e120_30, e120_31, e120_34, e120_35, zpush, zopt_some, ↓reduceIte, List.getElem?_cons_succ, List.getElem?_cons_zero, beq_self_eq_true, true_and, and_true, Bool.true_and, Bool.and_true, Bool.false_and, Bool.and_false, nI_1, not_true_eq_false, not_false_eq_true, vp_narI, k5, k17, k29, k41, k81, k121, j484_0, cl_0, j484_1, cl_1, j484_2, cl_2, j484_3, cl_3, j484_4, cl_4, o0, ↓fd0, ↓fd1, ↓fd2, ↓fd3, ↓fd4, ↓fd5, ↓fd6, ↓fd7, ↓fd8, ↓fd9, ↓fd10, ↓fd11, ↓fd12, ↓fd13, ↓fd14, ↓fd15, ↓fd16, ↓fd17, ↓fd18, ↓fd19, ↓fd20, ↓a0, hT, h1, zb_f]
theorem c_M_above {s : Nat} (hM : zMM h M) (hg : zG g) (eg : M 0 = g) (hs : s < gN g 2) (hL : zLd M g) : Ev 128 0 [.ref 108, .int (nI s)] [] (h, z) Q = Q (some (.int (abv g s))) (h, z) := by
  have b2 := hg.2.2.1.2
  obtain ⟨o0, fd0, fd1, fd2, fd3, fd4, fd5, fd6, fd7, fd8, fd9, fd10, fd11, fd12, fd13, fd14, fd15, fd16, fd17, fd18, fd19, fd20, a0, a1, a2, a4, a5, a6, a7, a9, a10, a11, a14⟩ := hM.q
  have hF := fun (Q : Option Value → zX → Prop) => c_M_fairShare (z := z) (Q := Q) hM hg eg hs hL
  have e1 : zinb (nI s) 12 = true := zinb_nI (by omega) (by decide)
  have e2 : (nI s).toNatClampNeg = s := nI_clamp (by omega)
  simp only [e128_0, e128_3, e128_4, e128_7, e128_8, e128_9, e128_10, e128_11, e128_12, e128_15, e128_16, zpush, zopt_some, ↓reduceIte, List.getElem?_cons_succ, List.getElem?_cons_zero, beq_self_eq_true, true_and, and_true, Bool.true_and, Bool.and_true, Bool.false_and, Bool.and_false, nI_1, not_true_eq_false, not_false_eq_true, vp_narI, o0, ↓fd0, ↓fd1, ↓fd2, ↓fd3, ↓fd4, ↓fd5, ↓fd6, ↓fd7, ↓fd8, ↓fd9, ↓fd10, ↓fd11, ↓fd12, ↓fd13, ↓fd14, ↓fd15, ↓fd16, ↓fd17, ↓fd18, ↓fd19, ↓fd20, ↓a10, hF, e1, e2, hL.1 s (by omega)]
  rfl
theorem l_M_fullest (hM : zMM h M) (hg : zG g) (eg : M 0 = g) (hL : zLd M g) : ∀ j i : Nat, i + j = gN g 2 → Ev 129 5 [.ref 108, .int (bI (mst g i)), .int (nI i)] [] (h, z) Q = Q (some (.int (bI (mst g (gN g 2))))) (h, z) := by
  obtain ⟨h2, b2⟩ := hg.2.2.1
  obtain ⟨o0, fd0, fd1, fd2, fd3, fd4, fd5, fd6, fd7, fd8, fd9, fd10, fd11, fd12, fd13, fd14, fd15, fd16, fd17, fd18, fd19, fd20, a0, a1, a2, a4, a5, a6, a7, a9, a10, a11, a14⟩ := hM.q
  rw [eg] at a0
  intro j
  induction j with
  | zero =>
    intro i hi
    have hi : i = gN g 2 := by omega
    subst hi
    have e1 : g 2 ≤ nI (gN g 2) := by rw [← h2]; exact Int32.le_refl _
    rw [e129_5]
    simp only [e129_0, e129_2, e129_3, e129_4, e129_6, e129_7, e129_10, e129_11, e129_12, e129_15, e129_16, e129_17, e129_20, e129_23, e129_24, e129_26, e129_29, e129_30, e129_31, e129_34, e129_35, e129_36, e129_39, e129_42, e129_43, e129_46, e129_47, e129_48, e129_51, e129_54, e129_55, zpush, zopt_some, ↓reduceIte, List.getElem?_cons_succ, List.getElem?_cons_zero, beq_self_eq_true, true_and, and_true, Bool.true_and, Bool.and_true, Bool.false_and, Bool.and_false, nI_1, not_true_eq_false, not_false_eq_true, vp_narI, k5, k17, k29, k41, k81, k121, j484_0, cl_0, j484_1, cl_1, j484_2, cl_2, j484_3, cl_3, j484_4, cl_4, o0, ↓fd0, ↓fd1, ↓fd2, ↓fd3, ↓fd4, ↓fd5, ↓fd6, ↓fd7, ↓fd8, ↓fd9, ↓fd10, ↓fd11, ↓fd12, ↓fd13, ↓fd14, ↓fd15, ↓fd16, ↓fd17, ↓fd18, ↓fd19, ↓fd20, ↓a0, e1]
  | succ j ih =>
    intro i hi
    have hlt : i < gN g 2 := by omega
    have e1 : ¬ g 2 ≤ nI i := by rw [h2]; exact nI_ge hlt (by omega)
    have hT := fun (Q : Option Value → zX → Prop) => c_M_takesPart (s := i) (z := z) (Q := Q) hM (by omega)
    have hA := fun (s : Nat) (hs : s < gN g 2) (Q : Option Value → zX → Prop) => c_M_above (z := z) (Q := Q) hM hg eg hs hL
    rw [eg] at hT
    rw [← ih (i + 1) (by omega), e129_5, mst]
    by_cases h5 : tp g i = true
    · rw [if_pos h5]
      cases hb : mst g i with
      | none =>
        simp only [e129_0, e129_2, e129_3, e129_4, e129_6, e129_7, e129_10, e129_11, e129_12, e129_15, e129_16, e129_17, e129_20, e129_23, e129_24, e129_26, e129_29, e129_30, e129_31, e129_34, e129_35, e129_36, e129_39, e129_42, e129_43, e129_46, e129_47, e129_48, e129_51, e129_54, e129_55, zpush, zopt_some, ↓reduceIte, List.getElem?_cons_succ, List.getElem?_cons_zero, beq_self_eq_true, true_and, and_true, Bool.true_and, Bool.and_true, Bool.false_and, Bool.and_false, nI_1, not_true_eq_false, not_false_eq_true, vp_narI, k5, k17, k29, k41, k81, k121, j484_0, cl_0, j484_1, cl_1, j484_2, cl_2, j484_3, cl_3, j484_4, cl_4, o0, ↓fd0, ↓fd1, ↓fd2, ↓fd3, ↓fd4, ↓fd5, ↓fd6, ↓fd7, ↓fd8, ↓fd9, ↓fd10, ↓fd11, ↓fd12, ↓fd13, ↓fd14, ↓fd15, ↓fd16, ↓fd17, ↓fd18, ↓fd19, ↓fd20, ↓a0, hT, h5, e1, bI, zb_t, (show ¬ (1 : Int32) = 0 by decide)]
      | some b =>
        have hbi := mst_lt g i b hb
        have f1 : ¬ nI b = -6 := nI_ne6 (by omega)
        have A1 := hA i hlt
        have A2 := hA b (by omega)
        by_cases h6 : abv g b < abv g i
        · have h6' : ¬ abv g i ≤ abv g b := Int32.not_le.mpr h6
          simp only [e129_0, e129_2, e129_3, e129_4, e129_6, e129_7, e129_10, e129_11, e129_12, e129_15, e129_16, e129_17, e129_20, e129_23, e129_24, e129_26, e129_29, e129_30, e129_31, e129_34, e129_35, e129_36, e129_39, e129_42, e129_43, e129_46, e129_47, e129_48, e129_51, e129_54, e129_55, zpush, zopt_some, ↓reduceIte, List.getElem?_cons_succ, List.getElem?_cons_zero, beq_self_eq_true, true_and, and_true, Bool.true_and, Bool.and_true, Bool.false_and, Bool.and_false, nI_1, not_true_eq_false, not_false_eq_true, vp_narI, k5, k17, k29, k41, k81, k121, j484_0, cl_0, j484_1, cl_1, j484_2, cl_2, j484_3, cl_3, j484_4, cl_4, o0, ↓fd0, ↓fd1, ↓fd2, ↓fd3, ↓fd4, ↓fd5, ↓fd6, ↓fd7, ↓fd8, ↓fd9, ↓fd10, ↓fd11, ↓fd12, ↓fd13, ↓fd14, ↓fd15, ↓fd16, ↓fd17, ↓fd18, ↓fd19, ↓fd20, ↓a0, hT, h5, e1, bI, f1, A1, A2, h6, h6', zb_t, (show ¬ (1 : Int32) = 0 by decide)]
        · have h6' : abv g i ≤ abv g b := Int32.not_lt.mp h6
          simp only [e129_0, e129_2, e129_3, e129_4, e129_6, e129_7, e129_10, e129_11, e129_12, e129_15, e129_16, e129_17, e129_20, e129_23, e129_24, e129_26, e129_29, e129_30, e129_31, e129_34, e129_35, e129_36, e129_39, e129_42, e129_43, e129_46, e129_47, e129_48, e129_51, e129_54, e129_55, zpush, zopt_some, ↓reduceIte, List.getElem?_cons_succ, List.getElem?_cons_zero, beq_self_eq_true, true_and, and_true, Bool.true_and, Bool.and_true, Bool.false_and, Bool.and_false, nI_1, not_true_eq_false, not_false_eq_true, vp_narI, k5, k17, k29, k41, k81, k121, j484_0, cl_0, j484_1, cl_1, j484_2, cl_2, j484_3, cl_3, j484_4, cl_4, o0, ↓fd0, ↓fd1, ↓fd2, ↓fd3, ↓fd4, ↓fd5, ↓fd6, ↓fd7, ↓fd8, ↓fd9, ↓fd10, ↓fd11, ↓fd12, ↓fd13, ↓fd14, ↓fd15, ↓fd16, ↓fd17, ↓fd18, ↓fd19, ↓fd20, ↓a0, hT, h5, e1, bI, f1, A1, A2, h6, h6', zb_t, (show ¬ (1 : Int32) = 0 by decide)]
    · rw [if_neg h5]
      rw [Bool.not_eq_true] at h5
      simp only [e129_0, e129_2, e129_3, e129_4, e129_6, e129_7, e129_10, e129_11, e129_12, e129_15, e129_16, e129_17, e129_20, e129_23, e129_24, e129_26, e129_29, e129_30, e129_31, e129_34, e129_35, e129_36, e129_39, e129_42, e129_43, e129_46, e129_47, e129_48, e129_51, e129_54, e129_55, zpush, zopt_some, ↓reduceIte, List.getElem?_cons_succ, List.getElem?_cons_zero, beq_self_eq_true, true_and, and_true, Bool.true_and, Bool.and_true, Bool.false_and, Bool.and_false, nI_1, not_true_eq_false, not_false_eq_true, vp_narI, k5, k17, k29, k41, k81, k121, j484_0, cl_0, j484_1, cl_1, j484_2, cl_2, j484_3, cl_3, j484_4, cl_4, o0, ↓fd0, ↓fd1, ↓fd2, ↓fd3, ↓fd4, ↓fd5, ↓fd6, ↓fd7, ↓fd8, ↓fd9, ↓fd10, ↓fd11, ↓fd12, ↓fd13, ↓fd14, ↓fd15, ↓fd16, ↓fd17, ↓fd18, ↓fd19, ↓fd20, ↓a0, hT, h5, e1, zb_f]
theorem c_M_fullest (hM : zMM h M) (hg : zG g) (eg : M 0 = g) (hL : zLd M g) : Ev 129 0 [.ref 108, zU, zU] [] (h, z) Q = Q (some (.int (bI (mst g (gN g 2))))) (h, z) := by
  refine Eq.trans ?_ (l_M_fullest hM hg eg hL (gN g 2) 0 (by omega))
  simp only [e129_0, e129_2, e129_3, e129_4, e129_6, e129_7, e129_10, e129_11, e129_12, e129_15, e129_16, e129_17, e129_20, e129_23, e129_24, e129_26, e129_29, e129_30, e129_31, e129_34, e129_35, e129_36, e129_39, e129_42, e129_43, e129_46, e129_47, e129_48, e129_51, e129_54, e129_55, zpush, zopt_some, ↓reduceIte, List.getElem?_cons_succ, List.getElem?_cons_zero, beq_self_eq_true, true_and, and_true, Bool.true_and, Bool.and_true, Bool.false_and, Bool.and_false, nI_1, not_true_eq_false, not_false_eq_true, vp_narI]
  rfl
theorem l_M_unevenness (hM : zMM h M) (hg : zG g) (eg : M 0 = g) (hL : zLd M g) : ∀ (j i : Nat) (v3 : Value), i + j = gN g 2 → Ev 133 8 [.ref 108, .int (unv g i), .int (nI i), v3] [] (h, z) Q = Q (some (.int (unv g (gN g 2)))) (h, z) := by
  obtain ⟨h2, b2⟩ := hg.2.2.1
  obtain ⟨o0, fd0, fd1, fd2, fd3, fd4, fd5, fd6, fd7, fd8, fd9, fd10, fd11, fd12, fd13, fd14, fd15, fd16, fd17, fd18, fd19, fd20, a0, a1, a2, a4, a5, a6, a7, a9, a10, a11, a14⟩ := hM.q
  rw [eg] at a0
  intro j
  induction j with
  | zero =>
    intro i v3 hi
    have hi : i = gN g 2 := by omega
    subst hi
    have e1 : g 2 ≤ nI (gN g 2) := by rw [← h2]; exact Int32.le_refl _
    rw [e133_8]
    simp only [e133_0, e133_1, e133_4, e133_5, e133_6, e133_7, e133_9, e133_10, e133_13, e133_14, e133_15, e133_18, e133_19, e133_20, e133_23, e133_26, e133_27, e133_28, e133_31, e133_34, e133_35, e133_36, e133_37, e133_38, e133_41, e133_42, e133_43, e133_46, e133_47, e133_48, e133_49, e133_52, e133_55, e133_56, zpush, zopt_some, ↓reduceIte, List.getElem?_cons_succ, List.getElem?_cons_zero, beq_self_eq_true, true_and, and_true, Bool.true_and, Bool.and_true, Bool.false_and, Bool.and_false, nI_1, not_true_eq_false, not_false_eq_true, vp_narI, k5, k17, k29, k41, k81, k121, j484_0, cl_0, j484_1, cl_1, j484_2, cl_2, j484_3, cl_3, j484_4, cl_4, o0, ↓fd0, ↓fd1, ↓fd2, ↓fd3, ↓fd4, ↓fd5, ↓fd6, ↓fd7, ↓fd8, ↓fd9, ↓fd10, ↓fd11, ↓fd12, ↓fd13, ↓fd14, ↓fd15, ↓fd16, ↓fd17, ↓fd18, ↓fd19, ↓fd20, ↓a0, e1]
  | succ j ih =>
    intro i v3 hi
    have hlt : i < gN g 2 := by omega
    have e1 : ¬ g 2 ≤ nI i := by rw [h2]; exact nI_ge hlt (by omega)
    have hT := fun (Q : Option Value → zX → Prop) => c_M_takesPart (s := i) (z := z) (Q := Q) hM (by omega)
    have hA := fun (Q : Option Value → zX → Prop) => c_M_above (z := z) (Q := Q) hM hg eg hlt hL
    rw [eg] at hT
    rw [e133_8]
    have ih := fun v3 => ih (i + 1) v3 (by omega)
    rw [unv] at ih
    by_cases h5 : tp g i = true
    · unfold absI at ih
      by_cases h6 : 0 ≤ abv g i
      · rw [if_pos h5, if_pos h6] at ih
        simp only [e133_0, e133_1, e133_4, e133_5, e133_6, e133_7, e133_9, e133_10, e133_13, e133_14, e133_15, e133_18, e133_19, e133_20, e133_23, e133_26, e133_27, e133_28, e133_31, e133_34, e133_35, e133_36, e133_37, e133_38, e133_41, e133_42, e133_43, e133_46, e133_47, e133_48, e133_49, e133_52, e133_55, e133_56, zpush, zopt_some, ↓reduceIte, List.getElem?_cons_succ, List.getElem?_cons_zero, beq_self_eq_true, true_and, and_true, Bool.true_and, Bool.and_true, Bool.false_and, Bool.and_false, nI_1, not_true_eq_false, not_false_eq_true, vp_narI, k5, k17, k29, k41, k81, k121, j484_0, cl_0, j484_1, cl_1, j484_2, cl_2, j484_3, cl_3, j484_4, cl_4, o0, ↓fd0, ↓fd1, ↓fd2, ↓fd3, ↓fd4, ↓fd5, ↓fd6, ↓fd7, ↓fd8, ↓fd9, ↓fd10, ↓fd11, ↓fd12, ↓fd13, ↓fd14, ↓fd15, ↓fd16, ↓fd17, ↓fd18, ↓fd19, ↓fd20, ↓a0, hT, hA, h5, h6, e1, zb_t, (show ¬ (1 : Int32) = 0 by decide)]
        exact ih _
      · rw [if_pos h5, if_neg h6] at ih
        simp only [e133_0, e133_1, e133_4, e133_5, e133_6, e133_7, e133_9, e133_10, e133_13, e133_14, e133_15, e133_18, e133_19, e133_20, e133_23, e133_26, e133_27, e133_28, e133_31, e133_34, e133_35, e133_36, e133_37, e133_38, e133_41, e133_42, e133_43, e133_46, e133_47, e133_48, e133_49, e133_52, e133_55, e133_56, zpush, zopt_some, ↓reduceIte, List.getElem?_cons_succ, List.getElem?_cons_zero, beq_self_eq_true, true_and, and_true, Bool.true_and, Bool.and_true, Bool.false_and, Bool.and_false, nI_1, not_true_eq_false, not_false_eq_true, vp_narI, k5, k17, k29, k41, k81, k121, j484_0, cl_0, j484_1, cl_1, j484_2, cl_2, j484_3, cl_3, j484_4, cl_4, o0, ↓fd0, ↓fd1, ↓fd2, ↓fd3, ↓fd4, ↓fd5, ↓fd6, ↓fd7, ↓fd8, ↓fd9, ↓fd10, ↓fd11, ↓fd12, ↓fd13, ↓fd14, ↓fd15, ↓fd16, ↓fd17, ↓fd18, ↓fd19, ↓fd20, ↓a0, hT, hA, h5, h6, e1, zb_t, (show ¬ (1 : Int32) = 0 by decide)]
        exact ih _
    · rw [if_neg h5] at ih
      rw [Bool.not_eq_true] at h5
      simp only [e133_0, e133_1, e133_4, e133_5, e133_6, e133_7, e133_9, e133_10, e133_13, e133_14, e133_15, e133_18, e133_19, e133_20, e133_23, e133_26, e133_27, e133_28, e133_31, e133_34, e133_35, e133_36, e133_37, e133_38, e133_41, e133_42, e133_43, e133_46, e133_47, e133_48, e133_49, e133_52, e133_55, e133_56, zpush, zopt_some, ↓reduceIte, List.getElem?_cons_succ, List.getElem?_cons_zero, beq_self_eq_true, true_and, and_true, Bool.true_and, Bool.and_true, Bool.false_and, Bool.and_false, nI_1, not_true_eq_false, not_false_eq_true, vp_narI, k5, k17, k29, k41, k81, k121, j484_0, cl_0, j484_1, cl_1, j484_2, cl_2, j484_3, cl_3, j484_4, cl_4, o0, ↓fd0, ↓fd1, ↓fd2, ↓fd3, ↓fd4, ↓fd5, ↓fd6, ↓fd7, ↓fd8, ↓fd9, ↓fd10, ↓fd11, ↓fd12, ↓fd13, ↓fd14, ↓fd15, ↓fd16, ↓fd17, ↓fd18, ↓fd19, ↓fd20, ↓a0, hT, h5, e1, zb_f, (show (0 : Int32) ≤ 0 by decide)]
      exact ih _
theorem c_M_unevenness (hM : zMM h M) (hg : zG g) (eg : M 0 = g) (hQ : ∀ h' M', zMv [6, 7, 8, 10, 11, 12, 13] h M h' M' → Q (some (.int (unv g (gN g 2)))) (h', z)) : Ev 133 0 [.ref 108, zU, zU, zU] [] (h, z) Q := by
  obtain ⟨o0, fd0, fd1, fd2, fd3, fd4, fd5, fd6, fd7, fd8, fd9, fd10, fd11, fd12, fd13, fd14, fd15, fd16, fd17, fd18, fd19, fd20, a0, a1, a2, a4, a5, a6, a7, a9, a10, a11, a14⟩ := hM.q
  simp only [e133_0, e133_1, e133_4, e133_5, e133_6, e133_7, e133_9, e133_10, e133_13, e133_14, e133_15, e133_18, e133_19, e133_20, e133_23, e133_26, e133_27, e133_28, e133_31, e133_34, e133_35, e133_36, e133_37, e133_38, e133_41, e133_42, e133_43, e133_46, e133_47, e133_48, e133_49, e133_52, e133_55, e133_56, zpush, zopt_some, ↓reduceIte, List.getElem?_cons_succ, List.getElem?_cons_zero, beq_self_eq_true, true_and, and_true, Bool.true_and, Bool.and_true, Bool.false_and, Bool.and_false, nI_1, not_true_eq_false, not_false_eq_true, vp_narI, o0, ↓fd0, ↓fd1, ↓fd2, ↓fd3, ↓fd4, ↓fd5, ↓fd6, ↓fd7, ↓fd8, ↓fd9, ↓fd10, ↓fd11, ↓fd12, ↓fd13, ↓fd14, ↓fd15, ↓fd16, ↓fd17, ↓fd18, ↓fd19, ↓fd20]
  refine c_M_findLoads hM hg eg (fun h1 M1 V1 g1 L1 => ?_)
  have := l_M_unevenness (z := z) (Q := Q) V1.mm hg g1 L1 (gN g 2) 0 zU (by omega)
  simp only [e133_0, e133_1, e133_4, e133_5, e133_6, e133_7, e133_9, e133_10, e133_13, e133_14, e133_15, e133_18, e133_19, e133_20, e133_23, e133_26, e133_27, e133_28, e133_31, e133_34, e133_35, e133_36, e133_37, e133_38, e133_41, e133_42, e133_43, e133_46, e133_47, e133_48, e133_49, e133_52, e133_55, e133_56, zpush, zopt_some, ↓reduceIte, List.getElem?_cons_succ, List.getElem?_cons_zero, beq_self_eq_true, true_and, and_true, Bool.true_and, Bool.and_true, Bool.false_and, Bool.and_false, nI_1, not_true_eq_false, not_false_eq_true, vp_narI]
  exact this.mpr (hQ h1 M1 V1)
end ZC
end
