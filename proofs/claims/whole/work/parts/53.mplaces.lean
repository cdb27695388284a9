/-! the model finds places -/
section
set_option maxRecDepth 100000
def zPo (M : Nat → Nat → Int32) (l : List Nat) : Prop := M 8 0 = nI l.length ∧ ∀ i p, l[i]? = some p → M 7 i = nI p
def stv (g : Nat → Int32) (o : Nat) (l : List Nat) (s : Nat) : Int32 := if cnd g l s = true then nI (lenS g s o) else -1
theorem tkn_app (g : Nat → Int32) (l : List Nat) (s t : Nat) : tkn g (l ++ [s]) t = (tkn g l t || decide (g (5 + t) = g (5 + s))) := by
  unfold tkn
  rw [List.any_append, List.any_cons, List.any_nil, Bool.or_false]
theorem stv_app (g : Nat → Int32) (o : Nat) (l : List Nat) (s t : Nat) : stv g o (l ++ [s]) t = if g (5 + t) = g (5 + s) then -1 else stv g o l t := by
  unfold stv cnd
  rw [tkn_app]
  by_cases h : g (5 + t) = g (5 + s)
  · simp [h]
  · simp [h]
theorem lenS_lt (g : Nat → Int32) (s o : Nat) : lenS g s o < 2147483648 := lenA_lt _ _
def bI : Option Nat → Int32
  | none => -6
  | some b => nI b
theorem grow_0 (g : Nat → Int32) (o : Nat) (l : List Nat) : grow g o 0 l = l := rfl
section ZC
variable {h : List zC} {z : Nat × (Nat × (Nat → Int32))} {M : Nat → Nat → Int32} {Q : Option Value → zX → Prop} {g : Nat → Int32}
theorem zPo.app {M' : Nat → Nat → Int32} {l : List Nat} {s : Nat} (hP : zPo M l) (h8 : M' 8 0 = nI (l.length + 1)) (h7 : M' 7 = upd (M 7) l.length (nI s)) : zPo M' (l ++ [s]) := by
  refine ⟨by rw [h8, List.length_append]; rfl, fun i p hi => ?_⟩
  rw [h7]
  by_cases e : i = l.length
  · subst e
    rw [List.getElem?_append_right (Nat.le_refl _), Nat.sub_self] at hi
    cases hi
    rw [upd_s]
  · rw [upd_n e]
    have hl : i < (l ++ [s]).length := (List.getElem?_eq_some_iff.mp hi).1
    rw [List.length_append, List.length_singleton] at hl
    rw [List.getElem?_append_left (by omega)] at hi
    exact hP.2 i p hi
theorem l_M_puts {o s : Nat} {l : List Nat} (hg : zG g) (hs : s < gN g 2) (h0 : List zC) (M0 : Nat → Nat → Int32) (hQ : ∀ h' M', zMv [6] h0 M0 h' M' → (∀ t, t < gN g 2 → M' 6 t = stv g o (l ++ [s]) t) → Q none (h', z)) :
    ∀ (j i : Nat) (h : List zC) (M : Nat → Nat → Int32), i + j = gN g 2 → zMv [6] h0 M0 h M → M 0 = g → (∀ t, t < i → M 6 t = stv g o (l ++ [s]) t) → (∀ t, i ≤ t → t < gN g 2 → M 6 t = stv g o l t) → Ev 95 22 [.ref 108, .int (nI s), .int (nI i)] [] (h, z) Q := by
  obtain ⟨h2, b2⟩ := hg.2.2.1
  have r1 : zinb (nI (5 + s)) 484 = true := zinb_nI (by omega) (by decide)
  have r2 : (nI (5 + s)).toNatClampNeg = 5 + s := nI_clamp (by omega)
  intro j
  induction j with
  | zero =>
    intro i h M hi V eg H1 H2
    have hi : i = gN g 2 := by omega
    subst hi
    obtain ⟨o0, fd0, fd1, fd2, fd3, fd4, fd5, fd6, fd7, fd8, fd9, fd10, fd11, fd12, fd13, fd14, fd15, fd16, fd17, fd18, fd19, fd20, a0, a1, a2, a4, a5, a6, a7, a9, a10, a11, a14⟩ := V.mm.q
    rw [eg] at a0
    have e1 : g 2 ≤ nI (gN g 2) := by rw [← h2]; exact Int32.le_refl _
    rw [e95_22]
    simp only [e95_0, e95_1, e95_4, e95_5, e95_8, e95_9, e95_10, e95_11, e95_12, e95_15, e95_16, e95_17, e95_20, e95_21, e95_23, e95_24, e95_27, e95_28, e95_29, e95_32, e95_33, e95_36, e95_37, e95_38, e95_41, e95_42, e95_43, e95_44, e95_45, e95_46, e95_49, e95_50, e95_51, e95_52, e95_53, e95_56, e95_57, e95_60, e95_61, e95_64, e95_65, e95_66, e95_67, e95_70, e95_73, zpush, zopt_some, ↓reduceIte, List.getElem?_cons_succ, List.getElem?_cons_zero, beq_self_eq_true, true_and, and_true, Bool.true_and, Bool.and_true, Bool.false_and, Bool.and_false, nI_1, not_true_eq_false, not_false_eq_true, vp_narI, k5, k17, k29, k41, k81, k121, j484_0, cl_0, j484_1, cl_1, j484_2, cl_2, j484_3, cl_3, j484_4, cl_4, o0, ↓fd0, ↓fd1, ↓fd2, ↓fd3, ↓fd4, ↓fd5, ↓fd6, ↓fd7, ↓fd8, ↓fd9, ↓fd10, ↓fd11, ↓fd12, ↓fd13, ↓fd14, ↓fd15, ↓fd16, ↓fd17, ↓fd18, ↓fd19, ↓fd20, ↓a0, e1]
    exact hQ h M V H1
  | succ j ih =>
    intro i h M hi V eg H1 H2
    obtain ⟨o0, fd0, fd1, fd2, fd3, fd4, fd5, fd6, fd7, fd8, fd9, fd10, fd11, fd12, fd13, fd14, fd15, fd16, fd17, fd18, fd19, fd20, a0, a1, a2, a4, a5, a6, a7, a9, a10, a11, a14⟩ := V.mm.q
    rw [eg] at a0
    have hlt : i < gN g 2 := by omega
    have e1 : ¬ g 2 ≤ nI i := by rw [h2]; exact nI_ge hlt (by omega)
    have e3 : zinb (nI (5 + i)) 484 = true := zinb_nI (by omega) (by decide)
    have e4 : (nI (5 + i)).toNatClampNeg = 5 + i := nI_clamp (by omega)
    have e5 : zinb (nI i) 12 = true := zinb_nI (by omega) (by decide)
    have e6 : (nI i).toNatClampNeg = i := nI_clamp (by omega)
    have key : ∀ v, v = stv g o (l ++ [s]) i → Ev 95 66 [.ref 108, .int (nI s), .int (nI i)] [.int v, .int (nI i), .ref 114] (h, z) Q := by
      intro v hv
      rw [e95_66]
      refine V.mm.w6 rfl (by omega) (fun h2 M2 V2 E2 => ?_)
      simp only [e95_0, e95_1, e95_4, e95_5, e95_8, e95_9, e95_10, e95_11, e95_12, e95_15, e95_16, e95_17, e95_20, e95_21, e95_23, e95_24, e95_27, e95_28, e95_29, e95_32, e95_33, e95_36, e95_37, e95_38, e95_41, e95_42, e95_43, e95_44, e95_45, e95_46, e95_49, e95_50, e95_51, e95_52, e95_53, e95_56, e95_57, e95_60, e95_61, e95_64, e95_65, e95_67, e95_70, e95_73, zpush, zopt_some, ↓reduceIte, List.getElem?_cons_succ, List.getElem?_cons_zero, beq_self_eq_true, true_and, and_true, Bool.true_and, Bool.and_true, Bool.false_and, Bool.and_false, nI_1, not_true_eq_false, not_false_eq_true, vp_narI]
      refine ih (i + 1) h2 M2 (by omega) (V.to V2 rfl) ((V2.k 0 rfl).trans eg) (fun t ht => ?_) (fun t h1 h2 => ?_)
      · rw [E2]
        by_cases e : t = i
        · subst e; rw [upd_s]; exact hv
        · rw [upd_n e]; exact H1 t (by omega)
      · rw [E2, upd_n (by omega)]; exact H2 t (by omega) h2
    rw [e95_22]
    by_cases h5 : g (5 + i) = g (5 + s)
    · simp only [e95_0, e95_1, e95_4, e95_5, e95_8, e95_9, e95_10, e95_11, e95_12, e95_15, e95_16, e95_17, e95_20, e95_21, e95_23, e95_24, e95_27, e95_28, e95_29, e95_32, e95_33, e95_36, e95_37, e95_38, e95_41, e95_42, e95_43, e95_44, e95_45, e95_46, e95_49, e95_50, e95_51, e95_52, e95_53, e95_56, e95_57, e95_60, e95_61, e95_64, e95_65, e95_67, e95_70, e95_73, zpush, zopt_some, ↓reduceIte, List.getElem?_cons_succ, List.getElem?_cons_zero, beq_self_eq_true, true_and, and_true, Bool.true_and, Bool.and_true, Bool.false_and, Bool.and_false, nI_1, not_true_eq_false, not_false_eq_true, vp_narI, k5, k17, k29, k41, k81, k121, j484_0, cl_0, j484_1, cl_1, j484_2, cl_2, j484_3, cl_3, j484_4, cl_4, o0, ↓fd0, ↓fd1, ↓fd2, ↓fd3, ↓fd4, ↓fd5, ↓fd6, ↓fd7, ↓fd8, ↓fd9, ↓fd10, ↓fd11, ↓fd12, ↓fd13, ↓fd14, ↓fd15, ↓fd16, ↓fd17, ↓fd18, ↓fd19, ↓fd20, ↓a0, ↓a6, e1, e3, e4, e5, e6, r1, r2, h5]
      exact key _ (by rw [stv_app, if_pos h5])
    · simp only [e95_0, e95_1, e95_4, e95_5, e95_8, e95_9, e95_10, e95_11, e95_12, e95_15, e95_16, e95_17, e95_20, e95_21, e95_23, e95_24, e95_27, e95_28, e95_29, e95_32, e95_33, e95_36, e95_37, e95_38, e95_41, e95_42, e95_43, e95_44, e95_45, e95_46, e95_49, e95_50, e95_51, e95_52, e95_53, e95_56, e95_57, e95_60, e95_61, e95_64, e95_65, e95_67, e95_70, e95_73, zpush, zopt_some, ↓reduceIte, List.getElem?_cons_succ, List.getElem?_cons_zero, beq_self_eq_true, true_and, and_true, Bool.true_and, Bool.and_true, Bool.false_and, Bool.and_false, nI_1, not_true_eq_false, not_false_eq_true, vp_narI, k5, k17, k29, k41, k81, k121, j484_0, cl_0, j484_1, cl_1, j484_2, cl_2, j484_3, cl_3, j484_4, cl_4, o0, ↓fd0, ↓fd1, ↓fd2, ↓fd3, ↓fd4, ↓fd5, ↓fd6, ↓fd7, ↓fd8, ↓fd9, ↓fd10, ↓fd11, ↓fd12, ↓fd13, ↓fd14, ↓fd15, ↓fd16, ↓fd17, ↓fd18, ↓fd19, ↓fd20, ↓a0, ↓a6, e1, e3, e4, e5, e6, r1, r2, h5, not_false_eq_true]
      exact key _ (by rw [stv_app, if_neg h5]; exact H2 i (Nat.le_refl _) hlt)
theorem c_M_puts {o s : Nat} {l : List Nat} (hM : zMM h M) (hg : zG g) (eg : M 0 = g) (hs : s < gN g 2) (hl : l.length < 3) (hP : zPo M l) (hS : ∀ t, t < gN g 2 → M 6 t = stv g o l t) (hQ : ∀ h' M', zMv [6, 7, 8] h M h' M' → zPo M' (l ++ [s]) → (∀ t, t < gN g 2 → M' 6 t = stv g o (l ++ [s]) t) → Q none (h', z)) :
    Ev 95 0 [.ref 108, .int (nI s), zU] [] (h, z) Q := by
  obtain ⟨o0, fd0, fd1, fd2, fd3, fd4, fd5, fd6, fd7, fd8, fd9, fd10, fd11, fd12, fd13, fd14, fd15, fd16, fd17, fd18, fd19, fd20, a0, a1, a2, a4, a5, a6, a7, a9, a10, a11, a14⟩ := hM.q
  simp only [e95_0, e95_1, e95_4, e95_5, e95_8, e95_10, e95_11, e95_12, e95_15, e95_16, e95_17, e95_20, e95_21, e95_23, e95_24, e95_27, e95_28, e95_29, e95_32, e95_33, e95_36, e95_37, e95_38, e95_41, e95_42, e95_43, e95_44, e95_45, e95_46, e95_49, e95_50, e95_51, e95_52, e95_53, e95_56, e95_57, e95_60, e95_61, e95_64, e95_65, e95_66, e95_67, e95_70, e95_73, zpush, zopt_some, ↓reduceIte, List.getElem?_cons_succ, List.getElem?_cons_zero, beq_self_eq_true, true_and, and_true, Bool.true_and, Bool.and_true, Bool.false_and, Bool.and_false, nI_1, not_true_eq_false, not_false_eq_true, vp_narI, o0, ↓fd0, ↓fd1, ↓fd2, ↓fd3, ↓fd4, ↓fd5, ↓fd6, ↓fd7, ↓fd8, ↓fd9, ↓fd10, ↓fd11, ↓fd12, ↓fd13, ↓fd14, ↓fd15, ↓fd16, ↓fd17, ↓fd18, ↓fd19, ↓fd20]
  rw [e95_9]
  refine hM.w7 hP.1 hl (fun h1 M1 V1 E1 => ?_)
  obtain ⟨o0, fd0, fd1, fd2, fd3, fd4, fd5, fd6, fd7, fd8, fd9, fd10, fd11, fd12, fd13, fd14, fd15, fd16, fd17, fd18, fd19, fd20, a0, a1, a2, a4, a5, a6, a7, a9, a10, a11, a14⟩ := V1.mm.q
  have e8 : M1 8 0 = nI l.length := by rw [V1.k 8 rfl]; exact hP.1
  simp only [e95_0, e95_1, e95_4, e95_5, e95_8, e95_10, e95_11, e95_12, e95_15, e95_16, e95_17, e95_20, e95_21, e95_23, e95_24, e95_27, e95_28, e95_29, e95_32, e95_33, e95_36, e95_37, e95_38, e95_41, e95_42, e95_43, e95_44, e95_45, e95_46, e95_49, e95_50, e95_51, e95_52, e95_53, e95_56, e95_57, e95_60, e95_61, e95_64, e95_65, e95_66, e95_67, e95_70, e95_73, zpush, zopt_some, ↓reduceIte, List.getElem?_cons_succ, List.getElem?_cons_zero, beq_self_eq_true, true_and, and_true, Bool.true_and, Bool.and_true, Bool.false_and, Bool.and_false, nI_1, not_true_eq_false, not_false_eq_true, vp_narI, o0, ↓fd0, ↓fd1, ↓fd2, ↓fd3, ↓fd4, ↓fd5, ↓fd6, ↓fd7, ↓fd8, ↓fd9, ↓fd10, ↓fd11, ↓fd12, ↓fd13, ↓fd14, ↓fd15, ↓fd16, ↓fd17, ↓fd18, ↓fd19, ↓fd20, e8]
  refine V1.mm.p8 (fun h2 M2 V2 E2 => ?_)
  have W2 := (V1.mono (T' := [6, 7, 8]) rfl).to V2 rfl
  refine l_M_puts (o := o) (l := l) hg hs h2 M2 (fun h3 M3 V3 H3 => ?_) (gN g 2) 0 h2 M2 (by omega) V2.mm.rf ((W2.k 0 rfl).trans eg) (fun t ht => absurd ht (by omega)) (fun t _ ht => by rw [V2.k 6 rfl, V1.k 6 rfl]; exact hS t ht)
  refine hQ h3 M3 (W2.to V3 rfl) (hP.app (by rw [V3.k 8 rfl]; exact E2) (by rw [V3.k 7 rfl, V2.k 7 rfl]; exact E1)) H3
theorem l_M_fp0 {o : Nat} {pin : Int32} (hg : zG g) (ho : o ≤ 9999) (h0 : List zC) (M0 : Nat → Nat → Int32) (hQ : ∀ h' M', zMv [6] h0 M0 h' M' → M' 0 = g → (∀ t, t < gN g 2 → M' 6 t = stv g o [] t) → Ev 96 47 [.ref 108, .int (nI o), .int pin, .int (nI (gN g 2)), zU, zU] [] (h', z) Q) :
    ∀ (j i : Nat) (h : List zC) (M : Nat → Nat → Int32), i + j = gN g 2 → zMv [6] h0 M0 h M → M 0 = g → (∀ t, t < i → M 6 t = stv g o [] t) → Ev 96 7 [.ref 108, .int (nI o), .int pin, .int (nI i), zU, zU] [] (h, z) Q := by
  obtain ⟨h2, b2⟩ := hg.2.2.1
  intro j
  induction j with
  | zero =>
    intro i h M hi V eg H1
    have hi : i = gN g 2 := by omega
    subst hi
    obtain ⟨o0, fd0, fd1, fd2, fd3, fd4, fd5, fd6, fd7, fd8, fd9, fd10, fd11, fd12, fd13, fd14, fd15, fd16, fd17, fd18, fd19, fd20, a0, a1, a2, a4, a5, a6, a7, a9, a10, a11, a14⟩ := V.mm.q
    rw [eg] at a0
    have e1 : g 2 ≤ nI (gN g 2) := by rw [← h2]; exact Int32.le_refl _
    rw [e96_7]
    simp only [e96_0, e96_1, e96_2, e96_5, e96_6, e96_8, e96_9, e96_12, e96_13, e96_14, e96_17, e96_18, e96_21, e96_22, e96_23, e96_24, e96_27, e96_30, e96_31, e96_32, e96_33, e96_36, e96_39, e96_40, e96_41, e96_44, e96_48, e96_50, e96_53, e96_54, e96_55, e96_58, e96_61, e96_62, e96_63, e96_66, e96_67, e96_68, e96_69, e96_72, e96_73, e96_76, e96_77, e96_80, e96_81, e96_82, e96_85, e96_87, e96_89, e96_90, e96_92, e96_94, e96_95, e96_98, e96_99, e96_100, e96_103, e96_104, e96_107, e96_109, e96_110, e96_113, e96_115, e96_117, e96_120, e96_121, e96_124, e96_126, e96_127, e96_128, e96_131, e96_133, e96_134, e96_137, e96_139, e96_142, e96_144, e96_146, e96_149, e96_152, e96_154, e96_156, e96_159, e96_160, e96_163, e96_164, e96_165, e96_166, e96_169, e96_170, e96_172, e96_175, e96_178, zpush, zopt_some, ↓reduceIte, List.getElem?_cons_succ, List.getElem?_cons_zero, beq_self_eq_true, true_and, and_true, Bool.true_and, Bool.and_true, Bool.false_and, Bool.and_false, nI_1, not_true_eq_false, not_false_eq_true, vp_narI, k5, k17, k29, k41, k81, k121, j484_0, cl_0, j484_1, cl_1, j484_2, cl_2, j484_3, cl_3, j484_4, cl_4, o0, ↓fd0, ↓fd1, ↓fd2, ↓fd3, ↓fd4, ↓fd5, ↓fd6, ↓fd7, ↓fd8, ↓fd9, ↓fd10, ↓fd11, ↓fd12, ↓fd13, ↓fd14, ↓fd15, ↓fd16, ↓fd17, ↓fd18, ↓fd19, ↓fd20, ↓a0, e1]
    exact hQ h M V eg H1
  | succ j ih =>
    intro i h M hi V eg H1
    obtain ⟨o0, fd0, fd1, fd2, fd3, fd4, fd5, fd6, fd7, fd8, fd9, fd10, fd11, fd12, fd13, fd14, fd15, fd16, fd17, fd18, fd19, fd20, a0, a1, a2, a4, a5, a6, a7, a9, a10, a11, a14⟩ := V.mm.q
    have hlt : i < gN g 2 := by omega
    have e1 : ¬ M 0 2 ≤ nI i := by rw [eg, h2]; exact nI_ge hlt (by omega)
    have key : ∀ v, v = stv g o [] i → Ev 96 40 [.ref 108, .int (nI o), .int pin, .int (nI i), zU, zU] [.int v, .int (nI i), .ref 114] (h, z) Q := by
      intro v hv
      rw [e96_40]
      refine V.mm.w6 rfl (by omega) (fun h2 M2 V2 E2 => ?_)
      simp only [e96_0, e96_1, e96_2, e96_5, e96_6, e96_8, e96_9, e96_12, e96_13, e96_14, e96_17, e96_18, e96_21, e96_22, e96_23, e96_24, e96_27, e96_30, e96_31, e96_32, e96_33, e96_36, e96_39, e96_41, e96_44, e96_47, e96_48, e96_50, e96_53, e96_54, e96_55, e96_58, e96_61, e96_62, e96_63, e96_66, e96_67, e96_68, e96_69, e96_72, e96_73, e96_76, e96_77, e96_80, e96_81, e96_82, e96_85, e96_87, e96_89, e96_90, e96_92, e96_94, e96_95, e96_98, e96_99, e96_100, e96_103, e96_104, e96_107, e96_109, e96_110, e96_113, e96_115, e96_117, e96_120, e96_121, e96_124, e96_126, e96_127, e96_128, e96_131, e96_133, e96_134, e96_137, e96_139, e96_142, e96_144, e96_146, e96_149, e96_152, e96_154, e96_156, e96_159, e96_160, e96_163, e96_164, e96_165, e96_166, e96_169, e96_170, e96_172, e96_175, e96_178, zpush, zopt_some, ↓reduceIte, List.getElem?_cons_succ, List.getElem?_cons_zero, beq_self_eq_true, true_and, and_true, Bool.true_and, Bool.and_true, Bool.false_and, Bool.and_false, nI_1, not_true_eq_false, not_false_eq_true, vp_narI]
      refine ih (i + 1) h2 M2 (by omega) (V.to V2 rfl) ((V2.k 0 rfl).trans eg) (fun t ht => ?_)
      rw [E2]
      by_cases e : t = i
      · subst e; rw [upd_s]; exact hv
      · rw [upd_n e]; exact H1 t (by omega)
    have hT := fun (Q : Option Value → zX → Prop) => c_M_takesPart (s := i) (z := z) (Q := Q) V.mm (by omega)
    rw [e96_7]
    by_cases h5 : tp g i = true
    · have hW := fun (Q : Option Value → zX → Prop) => c_M_strawOf (s := i) (o := o) (z := z) (Q := Q) V.mm (by rw [eg]; exact hg) (by rw [eg]; exact hlt) (by rw [eg]; exact h5) ho
      rw [eg] at hT hW
      simp only [e96_0, e96_1, e96_2, e96_5, e96_6, e96_8, e96_9, e96_12, e96_13, e96_14, e96_17, e96_18, e96_21, e96_22, e96_23, e96_24, e96_27, e96_30, e96_31, e96_32, e96_33, e96_36, e96_39, e96_41, e96_44, e96_47, e96_48, e96_50, e96_53, e96_54, e96_55, e96_58, e96_61, e96_62, e96_63, e96_66, e96_67, e96_68, e96_69, e96_72, e96_73, e96_76, e96_77, e96_80, e96_81, e96_82, e96_85, e96_87, e96_89, e96_90, e96_92, e96_94, e96_95, e96_98, e96_99, e96_100, e96_103, e96_104, e96_107, e96_109, e96_110, e96_113, e96_115, e96_117, e96_120, e96_121, e96_124, e96_126, e96_127, e96_128, e96_131, e96_133, e96_134, e96_137, e96_139, e96_142, e96_144, e96_146, e96_149, e96_152, e96_154, e96_156, e96_159, e96_160, e96_163, e96_164, e96_165, e96_166, e96_169, e96_170, e96_172, e96_175, e96_178, zpush, zopt_some, ↓reduceIte, List.getElem?_cons_succ, List.getElem?_cons_zero, beq_self_eq_true, true_and, and_true, Bool.true_and, Bool.and_true, Bool.false_and, Bool.and_false, nI_1, not_true_eq_false, not_false_eq_true, vp_narI, k5, k17, k29, k41, k81, k121, j484_0, cl_0, j484_1, cl_1, j484_2, cl_2, j484_3, cl_3, j484_4, cl_4, o0, ↓fd0, ↓fd1, ↓fd2, ↓fd3, ↓fd4, ↓fd5, ↓fd6, ↓fd7, ↓fd8, ↓fd9, ↓fd10, ↓fd11, ↓fd12, ↓fd13, ↓fd14, ↓fd15, ↓fd16, ↓fd17, ↓fd18, ↓fd19, ↓fd20, ↓a0, e1, hT, hW, h5, zb_t, (show ¬ (1 : Int32) = 0 by decide)]
      exact key _ (by unfold stv cnd tkn; simp [h5])
    · rw [Bool.not_eq_true] at h5
      rw [eg] at hT
      simp only [e96_0, e96_1, e96_2, e96_5, e96_6, e96_8, e96_9, e96_12, e96_13, e96_14, e96_17, e96_18, e96_21, e96_22, e96_23, e96_24, e96_27, e96_30, e96_31, e96_32, e96_33, e96_36, e96_39, e96_41, e96_44, e96_47, e96_48, e96_50, e96_53, e96_54, e96_55, e96_58, e96_61, e96_62, e96_63, e96_66, e96_67, e96_68, e96_69, e96_72, e96_73, e96_76, e96_77, e96_80, e96_81, e96_82, e96_85, e96_87, e96_89, e96_90, e96_92, e96_94, e96_95, e96_98, e96_99, e96_100, e96_103, e96_104, e96_107, e96_109, e96_110, e96_113, e96_115, e96_117, e96_120, e96_121, e96_124, e96_126, e96_127, e96_128, e96_131, e96_133, e96_134, e96_137, e96_139, e96_142, e96_144, e96_146, e96_149, e96_152, e96_154, e96_156, e96_159, e96_160, e96_163, e96_164, e96_165, e96_166, e96_169, e96_170, e96_172, e96_175, e96_178, zpush, zopt_some, ↓reduceIte, List.getElem?_cons_succ, List.getElem?_cons_zero, beq_self_eq_true, true_and, and_true, Bool.true_and, Bool.and_true, Bool.false_and, Bool.and_false, nI_1, not_true_eq_false, not_false_eq_true, vp_narI, k5, k17, k29, k41, k81, k121, j484_0, cl_0, j484_1, cl_1, j484_2, cl_2, j484_3, cl_3, j484_4, cl_4, o0, ↓fd0, ↓fd1, ↓fd2, ↓fd3, ↓fd4, ↓fd5, ↓fd6, ↓fd7, ↓fd8, ↓fd9, ↓fd10, ↓fd11, ↓fd12, ↓fd13, ↓fd14, ↓fd15, ↓fd16, ↓fd17, ↓fd18, ↓fd19, ↓fd20, ↓a0, e1, hT, h5, zb_f]
      exact key _ (by unfold stv cnd; simp [h5])
theorem l_M_fp1 {o : Nat} {pin l3 : Int32} {l : List Nat} (hM : zMM h M) (hg : zG g) (eg : M 0 = g) (hS : ∀ t, t < gN g 2 → M 6 t = stv g o l t) (hQ : ∀ l5 : Int32, Ev 96 152 [.ref 108, .int (nI o), .int pin, .int l3, .int (bI (bst g o l (gN g 2))), .int l5] [] (h, z) Q) :
    ∀ (j i : Nat), i + j = gN g 2 → Ev 96 92 [.ref 108, .int (nI o), .int pin, .int l3, .int (bI (bst g o l i)), .int (nI i)] [] (h, z) Q := by
  obtain ⟨h2, b2⟩ := hg.2.2.1
  obtain ⟨o0, fd0, fd1, fd2, fd3, fd4, fd5, fd6, fd7, fd8, fd9, fd10, fd11, fd12, fd13, fd14, fd15, fd16, fd17, fd18, fd19, fd20, a0, a1, a2, a4, a5, a6, a7, a9, a10, a11, a14⟩ := hM.q
  rw [eg] at a0
  intro j
  induction j with
  | zero =>
    intro i hi
    have hi : i = gN g 2 := by omega
    subst hi
    have e1 : g 2 ≤ nI (gN g 2) := by rw [← h2]; exact Int32.le_refl _
    rw [e96_92]
    simp only [e96_0, e96_1, e96_2, e96_5, e96_6, e96_7, e96_8, e96_9, e96_12, e96_13, e96_14, e96_17, e96_18, e96_21, e96_22, e96_23, e96_24, e96_27, e96_30, e96_31, e96_32, e96_33, e96_36, e96_39, e96_40, e96_41, e96_44, e96_47, e96_48, e96_50, e96_53, e96_54, e96_55, e96_58, e96_61, e96_62, e96_63, e96_66, e96_67, e96_68, e96_69, e96_72, e96_73, e96_76, e96_77, e96_80, e96_81, e96_82, e96_85, e96_87, e96_89, e96_90, e96_94, e96_95, e96_98, e96_99, e96_100, e96_103, e96_104, e96_107, e96_109, e96_110, e96_113, e96_115, e96_117, e96_120, e96_121, e96_124, e96_126, e96_127, e96_128, e96_131, e96_133, e96_134, e96_137, e96_139, e96_142, e96_144, e96_146, e96_149, e96_154, e96_156, e96_159, e96_160, e96_163, e96_164, e96_165, e96_166, e96_169, e96_170, e96_172, e96_175, e96_178, zpush, zopt_some, ↓reduceIte, List.getElem?_cons_succ, List.getElem?_cons_zero, beq_self_eq_true, true_and, and_true, Bool.true_and, Bool.and_true, Bool.false_and, Bool.and_false, nI_1, not_true_eq_false, not_false_eq_true, vp_narI, k5, k17, k29, k41, k81, k121, j484_0, cl_0, j484_1, cl_1, j484_2, cl_2, j484_3, cl_3, j484_4, cl_4, o0, ↓fd0, ↓fd1, ↓fd2, ↓fd3, ↓fd4, ↓fd5, ↓fd6, ↓fd7, ↓fd8, ↓fd9, ↓fd10, ↓fd11, ↓fd12, ↓fd13, ↓fd14, ↓fd15, ↓fd16, ↓fd17, ↓fd18, ↓fd19, ↓fd20, ↓a0, e1]
    exact hQ _
  | succ j ih =>
    intro i hi
    have hlt : i < gN g 2 := by omega
    have e1 : ¬ g 2 ≤ nI i := by rw [h2]; exact nI_ge hlt (by omega)
    have e5 : zinb (nI i) 12 = true := zinb_nI (by omega) (by decide)
    have e6 : (nI i).toNatClampNeg = i := nI_clamp (by omega)
    have ih := ih (i + 1) (by omega)
    have li := lenS_lt g i o
    have es := hS i hlt
    rw [e96_92]
    rw [bst] at ih
    by_cases hc : cnd g l i = true
    · rw [if_pos hc] at ih
      have es : M 6 i = nI (lenS g i o) := by rw [es]; unfold stv; rw [if_pos hc]
      have e7 : ¬ nI (lenS g i o) < 0 := nI_pos (by omega)
      cases hb : bst g o l i with
      | none =>
        rw [hb] at ih
        simp only [e96_0, e96_1, e96_2, e96_5, e96_6, e96_7, e96_8, e96_9, e96_12, e96_13, e96_14, e96_17, e96_18, e96_21, e96_22, e96_23, e96_24, e96_27, e96_30, e96_31, e96_32, e96_33, e96_36, e96_39, e96_40, e96_41, e96_44, e96_47, e96_48, e96_50, e96_53, e96_54, e96_55, e96_58, e96_61, e96_62, e96_63, e96_66, e96_67, e96_68, e96_69, e96_72, e96_73, e96_76, e96_77, e96_80, e96_81, e96_82, e96_85, e96_87, e96_89, e96_90, e96_94, e96_95, e96_98, e96_99, e96_100, e96_103, e96_104, e96_107, e96_109, e96_110, e96_113, e96_115, e96_117, e96_120, e96_121, e96_124, e96_126, e96_127, e96_128, e96_131, e96_133, e96_134, e96_137, e96_139, e96_142, e96_144, e96_146, e96_149, e96_154, e96_156, e96_159, e96_160, e96_163, e96_164, e96_165, e96_166, e96_169, e96_170, e96_172, e96_175, e96_178, zpush, zopt_some, ↓reduceIte, List.getElem?_cons_succ, List.getElem?_cons_zero, beq_self_eq_true, true_and, and_true, Bool.true_and, Bool.and_true, Bool.false_and, Bool.and_false, nI_1, not_true_eq_false, not_false_eq_true, vp_narI, k5, k17, k29, k41, k81, k121, j484_0, cl_0, j484_1, cl_1, j484_2, cl_2, j484_3, cl_3, j484_4, cl_4, o0, ↓fd0, ↓fd1, ↓fd2, ↓fd3, ↓fd4, ↓fd5, ↓fd6, ↓fd7, ↓fd8, ↓fd9, ↓fd10, ↓fd11, ↓fd12, ↓fd13, ↓fd14, ↓fd15, ↓fd16, ↓fd17, ↓fd18, ↓fd19, ↓fd20, ↓a0, ↓a6, e1, e5, e6, es, e7, bI]
        exact ih
      | some b =>
        rw [hb] at ih
        obtain ⟨hb1, hb2⟩ := bst_lt g o l i b hb
        have eb : M 6 b = nI (lenS g b o) := by rw [hS b (by omega)]; unfold stv; rw [if_pos hb2]
        have lb := lenS_lt g b o
        have f1 : ¬ nI b = -6 := nI_ne6 (by omega)
        have f5 : zinb (nI b) 12 = true := zinb_nI (by omega) (by decide)
        have f6 : (nI b).toNatClampNeg = b := nI_clamp (by omega)
        by_cases hlt2 : lenS g b o < lenS g i o
        · have f7 : ¬ nI (lenS g i o) ≤ nI (lenS g b o) := nI_ge hlt2 (by omega)
          dsimp only at ih
          rw [if_pos hlt2] at ih
          simp only [e96_0, e96_1, e96_2, e96_5, e96_6, e96_7, e96_8, e96_9, e96_12, e96_13, e96_14, e96_17, e96_18, e96_21, e96_22, e96_23, e96_24, e96_27, e96_30, e96_31, e96_32, e96_33, e96_36, e96_39, e96_40, e96_41, e96_44, e96_47, e96_48, e96_50, e96_53, e96_54, e96_55, e96_58, e96_61, e96_62, e96_63, e96_66, e96_67, e96_68, e96_69, e96_72, e96_73, e96_76, e96_77, e96_80, e96_81, e96_82, e96_85, e96_87, e96_89, e96_90, e96_94, e96_95, e96_98, e96_99, e96_100, e96_103, e96_104, e96_107, e96_109, e96_110, e96_113, e96_115, e96_117, e96_120, e96_121, e96_124, e96_126, e96_127, e96_128, e96_131, e96_133, e96_134, e96_137, e96_139, e96_142, e96_144, e96_146, e96_149, e96_154, e96_156, e96_159, e96_160, e96_163, e96_164, e96_165, e96_166, e96_169, e96_170, e96_172, e96_175, e96_178, zpush, zopt_some, ↓reduceIte, List.getElem?_cons_succ, List.getElem?_cons_zero, beq_self_eq_true, true_and, and_true, Bool.true_and, Bool.and_true, Bool.false_and, Bool.and_false, nI_1, not_true_eq_false, not_false_eq_true, vp_narI, k5, k17, k29, k41, k81, k121, j484_0, cl_0, j484_1, cl_1, j484_2, cl_2, j484_3, cl_3, j484_4, cl_4, o0, ↓fd0, ↓fd1, ↓fd2, ↓fd3, ↓fd4, ↓fd5, ↓fd6, ↓fd7, ↓fd8, ↓fd9, ↓fd10, ↓fd11, ↓fd12, ↓fd13, ↓fd14, ↓fd15, ↓fd16, ↓fd17, ↓fd18, ↓fd19, ↓fd20, ↓a0, ↓a6, e1, e5, e6, es, eb, e7, f1, f5, f6, f7, bI]
          exact ih
        · have f7 : nI (lenS g i o) ≤ nI (lenS g b o) := nI_le (by omega) (by omega)
          dsimp only at ih
          rw [if_neg hlt2] at ih
          simp only [e96_0, e96_1, e96_2, e96_5, e96_6, e96_7, e96_8, e96_9, e96_12, e96_13, e96_14, e96_17, e96_18, e96_21, e96_22, e96_23, e96_24, e96_27, e96_30, e96_31, e96_32, e96_33, e96_36, e96_39, e96_40, e96_41, e96_44, e96_47, e96_48, e96_50, e96_53, e96_54, e96_55, e96_58, e96_61, e96_62, e96_63, e96_66, e96_67, e96_68, e96_69, e96_72, e96_73, e96_76, e96_77, e96_80, e96_81, e96_82, e96_85, e96_87, e96_89, e96_90, e96_94, e96_95, e96_98, e96_99, e96_100, e96_103, e96_104, e96_107, e96_109, e96_110, e96_113, e96_115, e96_117, e96_120, e96_121, e96_124, e96_126, e96_127, e96_128, e96_131, e96_133, e96_134, e96_137, e96_139, e96_142, e96_144, e96_146, e96_149, e96_154, e96_156, e96_159, e96_160, e96_163, e96_164, e96_165, e96_166, e96_169, e96_170, e96_172, e96_175, e96_178, zpush, zopt_some, ↓reduceIte, List.getElem?_cons_succ, List.getElem?_cons_zero, beq_self_eq_true, true_and, and_true, Bool.true_and, Bool.and_true, Bool.false_and, Bool.and_false, nI_1, not_true_eq_false, not_false_eq_true, vp_narI, k5, k17, k29, k41, k81, k121, j484_0, cl_0, j484_1, cl_1, j484_2, cl_2, j484_3, cl_3, j484_4, cl_4, o0, ↓fd0, ↓fd1, ↓fd2, ↓fd3, ↓fd4, ↓fd5, ↓fd6, ↓fd7, ↓fd8, ↓fd9, ↓fd10, ↓fd11, ↓fd12, ↓fd13, ↓fd14, ↓fd15, ↓fd16, ↓fd17, ↓fd18, ↓fd19, ↓fd20, ↓a0, ↓a6, e1, e5, e6, es, eb, e7, f1, f5, f6, f7, bI]
          exact ih
    · rw [if_neg hc] at ih
      have es : M 6 i = -1 := by rw [es]; unfold stv; rw [if_neg hc]
      simp only [e96_0, e96_1, e96_2, e96_5, e96_6, e96_7, e96_8, e96_9, e96_12, e96_13, e96_14, e96_17, e96_18, e96_21, e96_22, e96_23, e96_24, e96_27, e96_30, e96_31, e96_32, e96_33, e96_36, e96_39, e96_40, e96_41, e96_44, e96_47, e96_48, e96_50, e96_53, e96_54, e96_55, e96_58, e96_61, e96_62, e96_63, e96_66, e96_67, e96_68, e96_69, e96_72, e96_73, e96_76, e96_77, e96_80, e96_81, e96_82, e96_85, e96_87, e96_89, e96_90, e96_94, e96_95, e96_98, e96_99, e96_100, e96_103, e96_104, e96_107, e96_109, e96_110, e96_113, e96_115, e96_117, e96_120, e96_121, e96_124, e96_126, e96_127, e96_128, e96_131, e96_133, e96_134, e96_137, e96_139, e96_142, e96_144, e96_146, e96_149, e96_154, e96_156, e96_159, e96_160, e96_163, e96_164, e96_165, e96_166, e96_169, e96_170, e96_172, e96_175, e96_178, zpush, zopt_some, ↓reduceIte, List.getElem?_cons_succ, List.getElem?_cons_zero, beq_self_eq_true, true_and, and_true, Bool.true_and, Bool.and_true, Bool.false_and, Bool.and_false, nI_1, not_true_eq_false, not_false_eq_true, vp_narI, k5, k17, k29, k41, k81, k121, j484_0, cl_0, j484_1, cl_1, j484_2, cl_2, j484_3, cl_3, j484_4, cl_4, o0, ↓fd0, ↓fd1, ↓fd2, ↓fd3, ↓fd4, ↓fd5, ↓fd6, ↓fd7, ↓fd8, ↓fd9, ↓fd10, ↓fd11, ↓fd12, ↓fd13, ↓fd14, ↓fd15, ↓fd16, ↓fd17, ↓fd18, ↓fd19, ↓fd20, ↓a0, ↓a6, e1, e5, e6, es, (show (-1 : Int32) < 0 by decide)]
      exact ih
theorem l_M_fp2 {o : Nat} {pin : Int32} (hg : zG g) (h0 : List zC) (M0 : Nat → Nat → Int32) (L : List Nat) (hQ : ∀ h' M', zMv [6, 7, 8] h0 M0 h' M' → zPo M' L → Q none (h', z)) :
    ∀ (c : Nat) (l : List Nat) (v4 v5 : Value) (h : List zC) (M : Nat → Nat → Int32), l.length + c = gN g 0 → grow g o c l = L → zMv [6, 7, 8] h0 M0 h M → M 0 = g → zPo M l → (∀ t, t < gN g 2 → M 6 t = stv g o l t) → Ev 96 68 [.ref 108, .int (nI o), .int pin, .int 1, v4, v5] [] (h, z) Q := by
  obtain ⟨k1, k2, k3⟩ := hg.1
  intro c
  induction c with
  | zero =>
    intro l v4 v5 h M hl hL V eg hP hS
    obtain ⟨o0, fd0, fd1, fd2, fd3, fd4, fd5, fd6, fd7, fd8, fd9, fd10, fd11, fd12, fd13, fd14, fd15, fd16, fd17, fd18, fd19, fd20, a0, a1, a2, a4, a5, a6, a7, a9, a10, a11, a14⟩ := V.mm.q
    rw [eg] at a0
    rw [hP.1] at fd8
    have e1 : g 0 ≤ nI l.length := by rw [k1]; exact nI_le (by omega) (by omega)
    rw [e96_68]
    simp only [e96_0, e96_1, e96_2, e96_5, e96_6, e96_7, e96_8, e96_9, e96_12, e96_13, e96_14, e96_17, e96_18, e96_21, e96_22, e96_23, e96_24, e96_27, e96_30, e96_31, e96_32, e96_33, e96_36, e96_39, e96_40, e96_41, e96_44, e96_47, e96_48, e96_50, e96_53, e96_54, e96_55, e96_58, e96_61, e96_62, e96_63, e96_66, e96_67, e96_69, e96_72, e96_73, e96_76, e96_77, e96_80, e96_81, e96_82, e96_85, e96_87, e96_89, e96_90, e96_92, e96_94, e96_95, e96_98, e96_99, e96_100, e96_103, e96_104, e96_107, e96_109, e96_110, e96_113, e96_115, e96_117, e96_120, e96_121, e96_124, e96_126, e96_127, e96_128, e96_131, e96_133, e96_134, e96_137, e96_139, e96_142, e96_144, e96_146, e96_149, e96_152, e96_154, e96_156, e96_159, e96_160, e96_163, e96_164, e96_165, e96_166, e96_169, e96_170, e96_172, e96_175, e96_178, zpush, zopt_some, ↓reduceIte, List.getElem?_cons_succ, List.getElem?_cons_zero, beq_self_eq_true, true_and, and_true, Bool.true_and, Bool.and_true, Bool.false_and, Bool.and_false, nI_1, not_true_eq_false, not_false_eq_true, vp_narI, k5, k17, k29, k41, k81, k121, j484_0, cl_0, j484_1, cl_1, j484_2, cl_2, j484_3, cl_3, j484_4, cl_4, o0, ↓fd0, ↓fd1, ↓fd2, ↓fd3, ↓fd4, ↓fd5, ↓fd6, ↓fd7, ↓fd8, ↓fd9, ↓fd10, ↓fd11, ↓fd12, ↓fd13, ↓fd14, ↓fd15, ↓fd16, ↓fd17, ↓fd18, ↓fd19, ↓fd20, ↓a0, e1, (show ¬ (1 : Int32) = 0 by decide)]
    refine hQ h M V ?_
    rw [← hL]
    exact hP
  | succ c ih =>
    intro l v4 v5 h M hl hL V eg hP hS
    obtain ⟨o0, fd0, fd1, fd2, fd3, fd4, fd5, fd6, fd7, fd8, fd9, fd10, fd11, fd12, fd13, fd14, fd15, fd16, fd17, fd18, fd19, fd20, a0, a1, a2, a4, a5, a6, a7, a9, a10, a11, a14⟩ := V.mm.q
    rw [eg] at a0
    rw [hP.1] at fd8
    have e1 : ¬ g 0 ≤ nI l.length := by rw [k1]; exact nI_ge (by omega) (by omega)
    rw [e96_68]
    simp only [e96_0, e96_1, e96_2, e96_5, e96_6, e96_7, e96_8, e96_9, e96_12, e96_13, e96_14, e96_17, e96_18, e96_21, e96_22, e96_23, e96_24, e96_27, e96_30, e96_31, e96_32, e96_33, e96_36, e96_39, e96_40, e96_41, e96_44, e96_47, e96_48, e96_50, e96_53, e96_54, e96_55, e96_58, e96_61, e96_62, e96_63, e96_66, e96_67, e96_69, e96_72, e96_73, e96_76, e96_77, e96_80, e96_81, e96_82, e96_85, e96_87, e96_89, e96_90, e96_94, e96_95, e96_98, e96_99, e96_100, e96_103, e96_104, e96_107, e96_109, e96_110, e96_113, e96_115, e96_117, e96_120, e96_121, e96_124, e96_126, e96_127, e96_128, e96_131, e96_133, e96_134, e96_137, e96_139, e96_142, e96_144, e96_146, e96_149, e96_152, e96_154, e96_156, e96_159, e96_160, e96_163, e96_164, e96_165, e96_166, e96_169, e96_170, e96_172, e96_175, e96_178, zpush, zopt_some, ↓reduceIte, List.getElem?_cons_succ, List.getElem?_cons_zero, beq_self_eq_true, true_and, and_true, Bool.true_and, Bool.and_true, Bool.false_and, Bool.and_false, nI_1, not_true_eq_false, not_false_eq_true, vp_narI, k5, k17, k29, k41, k81, k121, j484_0, cl_0, j484_1, cl_1, j484_2, cl_2, j484_3, cl_3, j484_4, cl_4, o0, ↓fd0, ↓fd1, ↓fd2, ↓fd3, ↓fd4, ↓fd5, ↓fd6, ↓fd7, ↓fd8, ↓fd9, ↓fd10, ↓fd11, ↓fd12, ↓fd13, ↓fd14, ↓fd15, ↓fd16, ↓fd17, ↓fd18, ↓fd19, ↓fd20, ↓a0, e1, (show ¬ (1 : Int32) = 0 by decide)]
    refine l_M_fp1 (o := o) (pin := pin) (l3 := 1) (l := l) V.mm hg eg hS (fun l5 => ?_) (gN g 2) 0 (by omega)
    rw [grow] at hL
    cases hb : bst g o l (gN g 2) with
    | none =>
      rw [hb] at hL
      rw [e96_152]
      simp only [e96_0, e96_1, e96_2, e96_5, e96_6, e96_7, e96_8, e96_9, e96_12, e96_13, e96_14, e96_17, e96_18, e96_21, e96_22, e96_23, e96_24, e96_27, e96_30, e96_31, e96_32, e96_33, e96_36, e96_39, e96_40, e96_41, e96_44, e96_47, e96_48, e96_50, e96_53, e96_54, e96_55, e96_58, e96_61, e96_62, e96_63, e96_66, e96_67, e96_69, e96_72, e96_73, e96_76, e96_77, e96_80, e96_81, e96_82, e96_85, e96_87, e96_89, e96_90, e96_92, e96_94, e96_95, e96_98, e96_99, e96_100, e96_103, e96_104, e96_107, e96_109, e96_110, e96_113, e96_115, e96_117, e96_120, e96_121, e96_124, e96_126, e96_127, e96_128, e96_131, e96_133, e96_134, e96_137, e96_139, e96_142, e96_144, e96_146, e96_149, e96_154, e96_156, e96_159, e96_160, e96_163, e96_164, e96_165, e96_166, e96_169, e96_170, e96_172, e96_175, e96_178, zpush, zopt_some, ↓reduceIte, List.getElem?_cons_succ, List.getElem?_cons_zero, beq_self_eq_true, true_and, and_true, Bool.true_and, Bool.and_true, Bool.false_and, Bool.and_false, nI_1, not_true_eq_false, not_false_eq_true, vp_narI, bI]
      rw [e96_68]
      simp only [e96_0, e96_1, e96_2, e96_5, e96_6, e96_7, e96_8, e96_9, e96_12, e96_13, e96_14, e96_17, e96_18, e96_21, e96_22, e96_23, e96_24, e96_27, e96_30, e96_31, e96_32, e96_33, e96_36, e96_39, e96_40, e96_41, e96_44, e96_47, e96_48, e96_50, e96_53, e96_54, e96_55, e96_58, e96_61, e96_62, e96_63, e96_66, e96_67, e96_69, e96_72, e96_73, e96_76, e96_77, e96_80, e96_81, e96_82, e96_85, e96_87, e96_89, e96_90, e96_92, e96_94, e96_95, e96_98, e96_99, e96_100, e96_103, e96_104, e96_107, e96_109, e96_110, e96_113, e96_115, e96_117, e96_120, e96_121, e96_124, e96_126, e96_127, e96_128, e96_131, e96_133, e96_134, e96_137, e96_139, e96_142, e96_144, e96_146, e96_149, e96_152, e96_154, e96_156, e96_159, e96_160, e96_163, e96_164, e96_165, e96_166, e96_169, e96_170, e96_172, e96_175, e96_178, zpush, zopt_some, ↓reduceIte, List.getElem?_cons_succ, List.getElem?_cons_zero, beq_self_eq_true, true_and, and_true, Bool.true_and, Bool.and_true, Bool.false_and, Bool.and_false, nI_1, not_true_eq_false, not_false_eq_true, vp_narI]
      exact hQ h M V (by rw [← hL]; exact hP)
    | some b =>
      rw [hb] at hL
      obtain ⟨hb1, hb2⟩ := bst_lt g o l _ b hb
      have b2 := hg.2.2.1.2
      have f1 : ¬ nI b = -6 := nI_ne6 (by omega)
      rw [e96_152]
      simp only [e96_0, e96_1, e96_2, e96_5, e96_6, e96_7, e96_8, e96_9, e96_12, e96_13, e96_14, e96_17, e96_18, e96_21, e96_22, e96_23, e96_24, e96_27, e96_30, e96_31, e96_32, e96_33, e96_36, e96_39, e96_40, e96_41, e96_44, e96_47, e96_48, e96_50, e96_53, e96_54, e96_55, e96_58, e96_61, e96_62, e96_63, e96_66, e96_67, e96_69, e96_72, e96_73, e96_76, e96_77, e96_80, e96_81, e96_82, e96_85, e96_87, e96_89, e96_90, e96_92, e96_94, e96_95, e96_98, e96_99, e96_100, e96_103, e96_104, e96_107, e96_109, e96_110, e96_113, e96_115, e96_117, e96_120, e96_121, e96_124, e96_126, e96_127, e96_128, e96_131, e96_133, e96_134, e96_137, e96_139, e96_142, e96_144, e96_146, e96_149, e96_154, e96_156, e96_159, e96_160, e96_163, e96_164, e96_165, e96_166, e96_169, e96_170, e96_172, e96_175, e96_178, zpush, zopt_some, ↓reduceIte, List.getElem?_cons_succ, List.getElem?_cons_zero, beq_self_eq_true, true_and, and_true, Bool.true_and, Bool.and_true, Bool.false_and, Bool.and_false, nI_1, not_true_eq_false, not_false_eq_true, vp_narI, bI, f1, o0, ↓fd0, ↓fd1, ↓fd2, ↓fd3, ↓fd4, ↓fd5, ↓fd6, ↓fd7, ↓fd8, ↓fd9, ↓fd10, ↓fd11, ↓fd12, ↓fd13, ↓fd14, ↓fd15, ↓fd16, ↓fd17, ↓fd18, ↓fd19, ↓fd20, (show ¬ (1 : Int32) = 0 by decide)]
      refine c_M_puts (o := o) V.mm hg eg hb1 (by omega) hP hS (fun h2 M2 V2 P2 S2 => ?_)
      simp only [e96_0, e96_1, e96_2, e96_5, e96_6, e96_7, e96_8, e96_9, e96_12, e96_13, e96_14, e96_17, e96_18, e96_21, e96_22, e96_23, e96_24, e96_27, e96_30, e96_31, e96_32, e96_33, e96_36, e96_39, e96_40, e96_41, e96_44, e96_47, e96_48, e96_50, e96_53, e96_54, e96_55, e96_58, e96_61, e96_62, e96_63, e96_66, e96_67, e96_69, e96_72, e96_73, e96_76, e96_77, e96_80, e96_81, e96_82, e96_85, e96_87, e96_89, e96_90, e96_92, e96_94, e96_95, e96_98, e96_99, e96_100, e96_103, e96_104, e96_107, e96_109, e96_110, e96_113, e96_115, e96_117, e96_120, e96_121, e96_124, e96_126, e96_127, e96_128, e96_131, e96_133, e96_134, e96_137, e96_139, e96_142, e96_144, e96_146, e96_149, e96_152, e96_154, e96_156, e96_159, e96_160, e96_163, e96_164, e96_165, e96_166, e96_169, e96_170, e96_172, e96_175, e96_178, zpush, zopt_some, ↓reduceIte, List.getElem?_cons_succ, List.getElem?_cons_zero, beq_self_eq_true, true_and, and_true, Bool.true_and, Bool.and_true, Bool.false_and, Bool.and_false, nI_1, not_true_eq_false, not_false_eq_true, vp_narI]
      exact ih (l ++ [b]) _ _ h2 M2 (by rw [List.length_append, List.length_singleton]; omega) hL (V.to V2 rfl) ((V2.k 0 rfl).trans eg) P2 S2
theorem c_M_findPlaces {o : Nat} {pin : Int32} (hM : zMM h M) (hg : zG g) (eg : M 0 = g) (ho : o ≤ 9999) (hp : pin = -6 ∨ ∃ j, j < gN g 2 ∧ pin = nI j) (hQ : ∀ h' M', zMv [6, 7, 8] h M h' M' → zPo M' (plc g o pin) → Q none (h', z)) :
    Ev 96 0 [.ref 108, .int (nI o), .int pin, zU, zU, zU] [] (h, z) Q := by
  have b2 := hg.2.2.1.2
  obtain ⟨k1, k2, k3⟩ := hg.1
  obtain ⟨o0, fd0, fd1, fd2, fd3, fd4, fd5, fd6, fd7, fd8, fd9, fd10, fd11, fd12, fd13, fd14, fd15, fd16, fd17, fd18, fd19, fd20, a0, a1, a2, a4, a5, a6, a7, a9, a10, a11, a14⟩ := hM.q
  simp only [e96_0, e96_1, e96_2, e96_5, e96_6, e96_8, e96_9, e96_12, e96_13, e96_14, e96_17, e96_18, e96_21, e96_22, e96_23, e96_24, e96_27, e96_30, e96_31, e96_32, e96_33, e96_36, e96_39, e96_40, e96_41, e96_44, e96_47, e96_48, e96_50, e96_53, e96_54, e96_55, e96_58, e96_61, e96_62, e96_63, e96_66, e96_67, e96_68, e96_69, e96_72, e96_73, e96_76, e96_77, e96_80, e96_81, e96_82, e96_85, e96_87, e96_89, e96_90, e96_92, e96_94, e96_95, e96_98, e96_99, e96_100, e96_103, e96_104, e96_107, e96_109, e96_110, e96_113, e96_115, e96_117, e96_120, e96_121, e96_124, e96_126, e96_127, e96_128, e96_131, e96_133, e96_134, e96_137, e96_139, e96_142, e96_144, e96_146, e96_149, e96_152, e96_154, e96_156, e96_159, e96_160, e96_163, e96_164, e96_165, e96_166, e96_169, e96_170, e96_172, e96_175, e96_178, zpush, zopt_some, ↓reduceIte, List.getElem?_cons_succ, List.getElem?_cons_zero, beq_self_eq_true, true_and, and_true, Bool.true_and, Bool.and_true, Bool.false_and, Bool.and_false, nI_1, not_true_eq_false, not_false_eq_true, vp_narI]
  refine hM.p8 (fun h1 M1 V1 E1 => ?_)
  refine l_M_fp0 (o := o) (pin := pin) hg ho h1 M1 (fun h2 M2 V2 g2 S2 => ?_) (gN g 2) 0 h1 M1 (by omega) V1.mm.rf ((V1.k 0 rfl).trans eg) (fun t ht => absurd ht (by omega))
  have W2 := (V1.mono (T' := [6, 7, 8]) rfl).to V2 rfl
  have P2 : zPo M2 [] := ⟨by rw [V2.k 8 rfl]; exact E1, fun i p hi => by cases hi⟩
  obtain ⟨o0, fd0, fd1, fd2, fd3, fd4, fd5, fd6, fd7, fd8, fd9, fd10, fd11, fd12, fd13, fd14, fd15, fd16, fd17, fd18, fd19, fd20, a0, a1, a2, a4, a5, a6, a7, a9, a10, a11, a14⟩ := V2.mm.q
  rw [e96_47]
  rcases hp with hp | ⟨j, hj, hp⟩
  · subst hp
    simp only [e96_0, e96_1, e96_2, e96_5, e96_6, e96_7, e96_8, e96_9, e96_12, e96_13, e96_14, e96_17, e96_18, e96_21, e96_22, e96_23, e96_24, e96_27, e96_30, e96_31, e96_32, e96_33, e96_36, e96_39, e96_40, e96_41, e96_44, e96_48, e96_50, e96_53, e96_54, e96_55, e96_58, e96_61, e96_62, e96_63, e96_66, e96_67, e96_69, e96_72, e96_73, e96_76, e96_77, e96_80, e96_81, e96_82, e96_85, e96_87, e96_89, e96_90, e96_92, e96_94, e96_95, e96_98, e96_99, e96_100, e96_103, e96_104, e96_107, e96_109, e96_110, e96_113, e96_115, e96_117, e96_120, e96_121, e96_124, e96_126, e96_127, e96_128, e96_131, e96_133, e96_134, e96_137, e96_139, e96_142, e96_144, e96_146, e96_149, e96_152, e96_154, e96_156, e96_159, e96_160, e96_163, e96_164, e96_165, e96_166, e96_169, e96_170, e96_172, e96_175, e96_178, zpush, zopt_some, ↓reduceIte, List.getElem?_cons_succ, List.getElem?_cons_zero, beq_self_eq_true, true_and, and_true, Bool.true_and, Bool.and_true, Bool.false_and, Bool.and_false, nI_1, not_true_eq_false, not_false_eq_true, vp_narI]
    refine l_M_fp2 hg h M (plc g o (-6)) hQ (gN g 0) [] _ _ h2 M2 (by rw [List.length_nil]; omega) ?_ W2 g2 P2 S2
    unfold plc pnd
    rw [show zinb (-6) (gN g 2) = false from (zinb_no (by omega)).mpr (Or.inl (by decide)), Bool.false_and, if_neg (by decide)]
  · subst hp
    have f1 : ¬ nI j = -6 := nI_ne6 (by omega)
    have hT := fun (Q : Option Value → zX → Prop) => c_M_takesPart (s := j) (z := z) (Q := Q) V2.mm (by omega)
    rw [g2] at hT
    have ez : zinb (nI j) (gN g 2) = true := zinb_nI hj (by omega)
    have ec : (nI j).toNatClampNeg = j := nI_clamp (by omega)
    by_cases h5 : tp g j = true
    · simp only [e96_0, e96_1, e96_2, e96_5, e96_6, e96_7, e96_8, e96_9, e96_12, e96_13, e96_14, e96_17, e96_18, e96_21, e96_22, e96_23, e96_24, e96_27, e96_30, e96_31, e96_32, e96_33, e96_36, e96_39, e96_40, e96_41, e96_44, e96_48, e96_50, e96_53, e96_54, e96_55, e96_58, e96_61, e96_62, e96_66, e96_67, e96_69, e96_72, e96_73, e96_76, e96_77, e96_80, e96_81, e96_82, e96_85, e96_87, e96_89, e96_90, e96_92, e96_94, e96_95, e96_98, e96_99, e96_100, e96_103, e96_104, e96_107, e96_109, e96_110, e96_113, e96_115, e96_117, e96_120, e96_121, e96_124, e96_126, e96_127, e96_128, e96_131, e96_133, e96_134, e96_137, e96_139, e96_142, e96_144, e96_146, e96_149, e96_152, e96_154, e96_156, e96_159, e96_160, e96_163, e96_164, e96_165, e96_166, e96_169, e96_170, e96_172, e96_175, e96_178, zpush, zopt_some, ↓reduceIte, List.getElem?_cons_succ, List.getElem?_cons_zero, beq_self_eq_true, true_and, and_true, Bool.true_and, Bool.and_true, Bool.false_and, Bool.and_false, nI_1, not_true_eq_false, not_false_eq_true, vp_narI, o0, ↓fd0, ↓fd1, ↓fd2, ↓fd3, ↓fd4, ↓fd5, ↓fd6, ↓fd7, ↓fd8, ↓fd9, ↓fd10, ↓fd11, ↓fd12, ↓fd13, ↓fd14, ↓fd15, ↓fd16, ↓fd17, ↓fd18, ↓fd19, ↓fd20, f1, hT, h5, zb_t, (show ¬ (1 : Int32) = 0 by decide)]
      rw [e96_63]
      refine ⟨o0, c_M_puts (o := o) V2.mm hg g2 hj (by decide) P2 S2 (fun h3 M3 V3 P3 S3 => ?_)⟩
      simp only [e96_0, e96_1, e96_2, e96_5, e96_6, e96_7, e96_8, e96_9, e96_12, e96_13, e96_14, e96_17, e96_18, e96_21, e96_22, e96_23, e96_24, e96_27, e96_30, e96_31, e96_32, e96_33, e96_36, e96_39, e96_40, e96_41, e96_44, e96_47, e96_48, e96_50, e96_53, e96_54, e96_55, e96_58, e96_61, e96_62, e96_63, e96_66, e96_67, e96_69, e96_72, e96_73, e96_76, e96_77, e96_80, e96_81, e96_82, e96_85, e96_87, e96_89, e96_90, e96_92, e96_94, e96_95, e96_98, e96_99, e96_100, e96_103, e96_104, e96_107, e96_109, e96_110, e96_113, e96_115, e96_117, e96_120, e96_121, e96_124, e96_126, e96_127, e96_128, e96_131, e96_133, e96_134, e96_137, e96_139, e96_142, e96_144, e96_146, e96_149, e96_152, e96_154, e96_156, e96_159, e96_160, e96_163, e96_164, e96_165, e96_166, e96_169, e96_170, e96_172, e96_175, e96_178, zpush, zopt_some, ↓reduceIte, List.getElem?_cons_succ, List.getElem?_cons_zero, beq_self_eq_true, true_and, and_true, Bool.true_and, Bool.and_true, Bool.false_and, Bool.and_false, nI_1, not_true_eq_false, not_false_eq_true, vp_narI]
      refine l_M_fp2 hg h M (plc g o (nI j)) hQ (gN g 0 - 1) [j] _ _ h3 M3 (by rw [List.length_singleton]; omega) ?_ (W2.to V3 rfl) ((V3.k 0 rfl).trans g2) P3 S3
      unfold plc pnd
      rw [ez, ec, h5, Bool.true_and, if_pos rfl]
    · rw [Bool.not_eq_true] at h5
      simp only [e96_0, e96_1, e96_2, e96_5, e96_6, e96_7, e96_8, e96_9, e96_12, e96_13, e96_14, e96_17, e96_18, e96_21, e96_22, e96_23, e96_24, e96_27, e96_30, e96_31, e96_32, e96_33, e96_36, e96_39, e96_40, e96_41, e96_44, e96_48, e96_50, e96_53, e96_54, e96_55, e96_58, e96_61, e96_62, e96_63, e96_66, e96_67, e96_69, e96_72, e96_73, e96_76, e96_77, e96_80, e96_81, e96_82, e96_85, e96_87, e96_89, e96_90, e96_92, e96_94, e96_95, e96_98, e96_99, e96_100, e96_103, e96_104, e96_107, e96_109, e96_110, e96_113, e96_115, e96_117, e96_120, e96_121, e96_124, e96_126, e96_127, e96_128, e96_131, e96_133, e96_134, e96_137, e96_139, e96_142, e96_144, e96_146, e96_149, e96_152, e96_154, e96_156, e96_159, e96_160, e96_163, e96_164, e96_165, e96_166, e96_169, e96_170, e96_172, e96_175, e96_178, zpush, zopt_some, ↓reduceIte, List.getElem?_cons_succ, List.getElem?_cons_zero, beq_self_eq_true, true_and, and_true, Bool.true_and, Bool.and_true, Bool.false_and, Bool.and_false, nI_1, not_true_eq_false, not_false_eq_true, vp_narI, o0, ↓fd0, ↓fd1, ↓fd2, ↓fd3, ↓fd4, ↓fd5, ↓fd6, ↓fd7, ↓fd8, ↓fd9, ↓fd10, ↓fd11, ↓fd12, ↓fd13, ↓fd14, ↓fd15, ↓fd16, ↓fd17, ↓fd18, ↓fd19, ↓fd20, f1, hT, h5, zb_f]
      refine l_M_fp2 hg h M (plc g o (nI j)) hQ (gN g 0) [] _ _ h2 M2 (by rw [List.length_nil]; omega) ?_ W2 g2 P2 S2
      unfold plc pnd
      rw [ez, ec, h5, Bool.and_false, if_neg (by decide)]
theorem c_M_findPlacesAt {k : Nat} (hM : zMM h M) (hg : zG g) (eg : M 0 = g) (hk : k < gN g 3) (hQ : ∀ h' M', zMv [6, 7, 8] h M h' M' → zPo M' (plK g k) → Q none (h', z)) :
    Ev 97 0 [.ref 108, .int (nI k)] [] (h, z) Q := by
  have b3 := hg.2.2.2.1.2
  obtain ⟨o0, fd0, fd1, fd2, fd3, fd4, fd5, fd6, fd7, fd8, fd9, fd10, fd11, fd12, fd13, fd14, fd15, fd16, fd17, fd18, fd19, fd20, a0, a1, a2, a4, a5, a6, a7, a9, a10, a11, a14⟩ := hM.q
  rw [eg] at a0
  obtain ⟨⟨o1, o2⟩, p1⟩ := hg.2.2.2.2.2.2 k hk
  have e1 : zinb (nI (41 + k)) 484 = true := zinb_nI (by omega) (by decide)
  have e2 : (nI (41 + k)).toNatClampNeg = 41 + k := nI_clamp (by omega)
  have e3 : zinb (nI (81 + k)) 484 = true := zinb_nI (by omega) (by decide)
  have e4 : (nI (81 + k)).toNatClampNeg = 81 + k := nI_clamp (by omega)
  simp only [e97_0, e97_1, e97_2, e97_5, e97_7, e97_8, e97_9, e97_10, e97_11, e97_14, e97_16, e97_17, e97_18, e97_19, e97_22, zpush, zopt_some, ↓reduceIte, List.getElem?_cons_succ, List.getElem?_cons_zero, beq_self_eq_true, true_and, and_true, Bool.true_and, Bool.and_true, Bool.false_and, Bool.and_false, nI_1, not_true_eq_false, not_false_eq_true, vp_narI, k5, k17, k29, k41, k81, k121, j484_0, cl_0, j484_1, cl_1, j484_2, cl_2, j484_3, cl_3, j484_4, cl_4, o0, ↓fd0, ↓fd1, ↓fd2, ↓fd3, ↓fd4, ↓fd5, ↓fd6, ↓fd7, ↓fd8, ↓fd9, ↓fd10, ↓fd11, ↓fd12, ↓fd13, ↓fd14, ↓fd15, ↓fd16, ↓fd17, ↓fd18, ↓fd19, ↓fd20, ↓a0, e1, e2, e3, e4]
  rw [o1]
  refine c_M_findPlaces hM hg eg o2 p1 (fun h' M' V P => ?_)
  simp only [e97_0, e97_1, e97_2, e97_5, e97_7, e97_8, e97_9, e97_10, e97_11, e97_14, e97_16, e97_17, e97_18, e97_19, e97_22, zpush, zopt_some, ↓reduceIte, List.getElem?_cons_succ, List.getElem?_cons_zero, beq_self_eq_true, true_and, and_true, Bool.true_and, Bool.and_true, Bool.false_and, Bool.and_false, nI_1, not_true_eq_false, not_false_eq_true, vp_narI]
  exact hQ h' M' V P
end ZC
end
