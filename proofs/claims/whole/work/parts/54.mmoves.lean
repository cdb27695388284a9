/-! the model finds moves -/
section
set_option maxRecDepth 100000
def clrI (S : Int32) : Nat → Int32
  | 0 => S
  | i + 1 => clr (clrI S i)
theorem clrI_ok {S : Int32} (h : okS S = true) : ∀ i, i < 3 → nthS S i = lowI (clrI S i) ∧ (lowI (clrI S i) = -6 ↔ clrI S i = 0) ∧ (clrI S i = 0 ∨ hasB (clrI S i) 12 0 = true) := by
  obtain ⟨h1, h2, h3, h4, h5, h6, h7, h8, h9, h10, -⟩ := okS_d h
  intro i hi
  rcases (show i = 0 ∨ i = 1 ∨ i = 2 by omega) with rfl | rfl | rfl
  · exact ⟨h1, h8, h5⟩
  · exact ⟨h2, h9, h6⟩
  · exact ⟨h3, h10, h7⟩
theorem clrI_3 {S : Int32} (h : okS S = true) : clrI S 3 = 0 := (okS_d h).2.2.2.1
theorem nI_2 (a : Nat) : nI a + 2 = nI (a + 2) := by rw [show (2 : Int32) = nI 2 from rfl, nI_add]
theorem nI_3m (a : Nat) : (3 : Int32) * nI a = nI (3 * a) := by rw [show (3 : Int32) = nI 3 from rfl, pk_mul]
section ZC
variable {h : List zC} {z : Nat × (Nat × (Nat → Int32))} {M : Nat → Nat → Int32} {Q : Option Value → zX → Prop} {g : Nat → Int32}
theorem l_M_setOf {k : Nat} {l : List Nat} (hM : zMM h M) (hl : l.length ≤ 3) (hP : zPo M l) : ∀ (j i : Nat), i + j = l.length → Ev 98 9 [.ref 108, .int (nI k), .int (setI (l.take i)), .int (nI i)] [] (h, z) Q = Q (some (.int (setI l))) (h, z) := by
  obtain ⟨o0, fd0, fd1, fd2, fd3, fd4, fd5, fd6, fd7, fd8, fd9, fd10, fd11, fd12, fd13, fd14, fd15, fd16, fd17, fd18, fd19, fd20, a0, a1, a2, a4, a5, a6, a7, a9, a10, a11, a14⟩ := hM.q
  rw [hP.1] at fd8
  intro j
  induction j with
  | zero =>
    intro i hi
    have hi : i = l.length := by omega
    subst hi
    have e1 : nI l.length ≤ nI l.length := Int32.le_refl _
    rw [e98_9]
    simp only [e98_0, e98_1, e98_2, e98_5, e98_6, e98_7, e98_8, e98_10, e98_11, e98_14, e98_17, e98_18, e98_19, e98_20, e98_23, e98_24, e98_25, e98_26, e98_27, e98_28, e98_31, e98_34, e98_35, zpush, zopt_some, ↓reduceIte, List.getElem?_cons_succ, List.getElem?_cons_zero, beq_self_eq_true, true_and, and_true, Bool.true_and, Bool.and_true, Bool.false_and, Bool.and_false, nI_1, not_true_eq_false, not_false_eq_true, vp_narI, k5, k17, k29, k41, k81, k121, j484_0, cl_0, j484_1, cl_1, j484_2, cl_2, j484_3, cl_3, j484_4, cl_4, o0, ↓fd0, ↓fd1, ↓fd2, ↓fd3, ↓fd4, ↓fd5, ↓fd6, ↓fd7, ↓fd8, ↓fd9, ↓fd10, ↓fd11, ↓fd12, ↓fd13, ↓fd14, ↓fd15, ↓fd16, ↓fd17, ↓fd18, ↓fd19, ↓fd20, e1, List.take_length]
  | succ j ih =>
    intro i hi
    have hlt : i < l.length := by omega
    have e1 : ¬ nI l.length ≤ nI i := nI_ge hlt (by omega)
    have e5 : zinb (nI i) 3 = true := zinb_nI (by omega) (by decide)
    have e6 : (nI i).toNatClampNeg = i := nI_clamp (by omega)
    have e7 : M 7 i = nI (l.getD i 0) := hP.2 i _ (by rw [List.getD_eq_getElem?_getD, List.getElem?_eq_getElem hlt]; rfl)
    have ih := ih (i + 1) (by omega)
    rw [take_s hlt, setI_app] at ih
    rw [← ih, e98_9]
    simp only [e98_0, e98_1, e98_2, e98_5, e98_6, e98_7, e98_8, e98_10, e98_11, e98_14, e98_17, e98_18, e98_19, e98_20, e98_23, e98_24, e98_25, e98_26, e98_27, e98_28, e98_31, e98_34, e98_35, zpush, zopt_some, ↓reduceIte, List.getElem?_cons_succ, List.getElem?_cons_zero, beq_self_eq_true, true_and, and_true, Bool.true_and, Bool.and_true, Bool.false_and, Bool.and_false, nI_1, not_true_eq_false, not_false_eq_true, vp_narI, k5, k17, k29, k41, k81, k121, j484_0, cl_0, j484_1, cl_1, j484_2, cl_2, j484_3, cl_3, j484_4, cl_4, o0, ↓fd0, ↓fd1, ↓fd2, ↓fd3, ↓fd4, ↓fd5, ↓fd6, ↓fd7, ↓fd8, ↓fd9, ↓fd10, ↓fd11, ↓fd12, ↓fd13, ↓fd14, ↓fd15, ↓fd16, ↓fd17, ↓fd18, ↓fd19, ↓fd20, ↓a7, e1, e5, e6, e7]
theorem c_M_setOf {k : Nat} (hM : zMM h M) (hg : zG g) (eg : M 0 = g) (hk : k < gN g 3) (hQ : ∀ h' M', zMv [6, 7, 8] h M h' M' → zPo M' (plK g k) → Q (some (.int (setI (plK g k)))) (h', z)) :
    Ev 98 0 [.ref 108, .int (nI k), zU, zU] [] (h, z) Q := by
  obtain ⟨o0, fd0, fd1, fd2, fd3, fd4, fd5, fd6, fd7, fd8, fd9, fd10, fd11, fd12, fd13, fd14, fd15, fd16, fd17, fd18, fd19, fd20, a0, a1, a2, a4, a5, a6, a7, a9, a10, a11, a14⟩ := hM.q
  simp only [e98_0, e98_1, e98_2, e98_5, e98_6, e98_7, e98_8, e98_10, e98_11, e98_14, e98_17, e98_18, e98_19, e98_20, e98_23, e98_24, e98_25, e98_26, e98_27, e98_28, e98_31, e98_34, e98_35, zpush, zopt_some, ↓reduceIte, List.getElem?_cons_succ, List.getElem?_cons_zero, beq_self_eq_true, true_and, and_true, Bool.true_and, Bool.and_true, Bool.false_and, Bool.and_false, nI_1, not_true_eq_false, not_false_eq_true, vp_narI, o0, ↓fd0, ↓fd1, ↓fd2, ↓fd3, ↓fd4, ↓fd5, ↓fd6, ↓fd7, ↓fd8, ↓fd9, ↓fd10, ↓fd11, ↓fd12, ↓fd13, ↓fd14, ↓fd15, ↓fd16, ↓fd17, ↓fd18, ↓fd19, ↓fd20]
  refine c_M_findPlacesAt hM hg eg hk (fun h' M' V P => ?_)
  have := l_M_setOf (z := z) (Q := Q) (k := k) V.mm (plK_ok hg k).2 P (plK g k).length 0 (by omega)
  simp only [e98_0, e98_1, e98_2, e98_5, e98_6, e98_7, e98_8, e98_10, e98_11, e98_14, e98_17, e98_18, e98_19, e98_20, e98_23, e98_24, e98_25, e98_26, e98_27, e98_28, e98_31, e98_34, e98_35, zpush, zopt_some, ↓reduceIte, List.getElem?_cons_succ, List.getElem?_cons_zero, beq_self_eq_true, true_and, and_true, Bool.true_and, Bool.and_true, Bool.false_and, Bool.and_false, nI_1, not_true_eq_false, not_false_eq_true, vp_narI]
  rw [show (0 : Int32) = setI ((plK g k).take 0) by rw [List.take_zero]; rfl]
  exact this.mpr (hQ h' M' V P)
theorem l_M_noteBefore (hg : zG g) (h0 : List zC) (M0 : Nat → Nat → Int32) (hQ : ∀ h' M', zMv [6, 7, 8, 9] h0 M0 h' M' → (∀ q, q < gN g 3 → M' 9 q = setI (plK g q)) → Q none (h', z)) :
    ∀ (j i : Nat) (h : List zC) (M : Nat → Nat → Int32), i + j = gN g 3 → zMv [6, 7, 8, 9] h0 M0 h M → M 0 = g → (∀ q, q < i → M 9 q = setI (plK g q)) → Ev 99 2 [.ref 108, .int (nI i)] [] (h, z) Q := by
  obtain ⟨h3, b3⟩ := hg.2.2.2.1
  intro j
  induction j with
  | zero =>
    intro i h M hi V eg H
    have hi : i = gN g 3 := by omega
    subst hi
    obtain ⟨o0, fd0, fd1, fd2, fd3, fd4, fd5, fd6, fd7, fd8, fd9, fd10, fd11, fd12, fd13, fd14, fd15, fd16, fd17, fd18, fd19, fd20, a0, a1, a2, a4, a5, a6, a7, a9, a10, a11, a14⟩ := V.mm.q
    rw [eg] at a0
    have e1 : g 3 ≤ nI (gN g 3) := by rw [← h3]; exact Int32.le_refl _
    rw [e99_2]
    simp only [e99_0, e99_1, e99_3, e99_4, e99_7, e99_8, e99_9, e99_12, e99_13, e99_16, e99_17, e99_18, e99_19, e99_22, e99_23, e99_26, e99_29, zpush, zopt_some, ↓reduceIte, List.getElem?_cons_succ, List.getElem?_cons_zero, beq_self_eq_true, true_and, and_true, Bool.true_and, Bool.and_true, Bool.false_and, Bool.and_false, nI_1, not_true_eq_false, not_false_eq_true, vp_narI, k5, k17, k29, k41, k81, k121, j484_0, cl_0, j484_1, cl_1, j484_2, cl_2, j484_3, cl_3, j484_4, cl_4, o0, ↓fd0, ↓fd1, ↓fd2, ↓fd3, ↓fd4, ↓fd5, ↓fd6, ↓fd7, ↓fd8, ↓fd9, ↓fd10, ↓fd11, ↓fd12, ↓fd13, ↓fd14, ↓fd15, ↓fd16, ↓fd17, ↓fd18, ↓fd19, ↓fd20, ↓a0, e1]
    exact hQ h M V H
  | succ j ih =>
    intro i h M hi V eg H
    obtain ⟨o0, fd0, fd1, fd2, fd3, fd4, fd5, fd6, fd7, fd8, fd9, fd10, fd11, fd12, fd13, fd14, fd15, fd16, fd17, fd18, fd19, fd20, a0, a1, a2, a4, a5, a6, a7, a9, a10, a11, a14⟩ := V.mm.q
    rw [eg] at a0
    have hlt : i < gN g 3 := by omega
    have e1 : ¬ g 3 ≤ nI i := by rw [h3]; exact nI_ge hlt (by omega)
    rw [e99_2]
    simp only [e99_0, e99_1, e99_3, e99_4, e99_7, e99_8, e99_9, e99_12, e99_13, e99_16, e99_17, e99_18, e99_19, e99_23, e99_26, e99_29, zpush, zopt_some, ↓reduceIte, List.getElem?_cons_succ, List.getElem?_cons_zero, beq_self_eq_true, true_and, and_true, Bool.true_and, Bool.and_true, Bool.false_and, Bool.and_false, nI_1, not_true_eq_false, not_false_eq_true, vp_narI, k5, k17, k29, k41, k81, k121, j484_0, cl_0, j484_1, cl_1, j484_2, cl_2, j484_3, cl_3, j484_4, cl_4, o0, ↓fd0, ↓fd1, ↓fd2, ↓fd3, ↓fd4, ↓fd5, ↓fd6, ↓fd7, ↓fd8, ↓fd9, ↓fd10, ↓fd11, ↓fd12, ↓fd13, ↓fd14, ↓fd15, ↓fd16, ↓fd17, ↓fd18, ↓fd19, ↓fd20, ↓a0, e1]
    refine c_M_setOf V.mm hg eg hlt (fun h2 M2 V2 P2 => ?_)
    have W2 := V.to V2 rfl
    dsimp only [zpush]
    rw [e99_22]
    refine V2.mm.w9 rfl (by omega) (fun h3 M3 V3 E3 => ?_)
    simp only [e99_0, e99_1, e99_3, e99_4, e99_7, e99_8, e99_9, e99_12, e99_13, e99_16, e99_17, e99_18, e99_19, e99_23, e99_26, e99_29, zpush, zopt_some, ↓reduceIte, List.getElem?_cons_succ, List.getElem?_cons_zero, beq_self_eq_true, true_and, and_true, Bool.true_and, Bool.and_true, Bool.false_and, Bool.and_false, nI_1, not_true_eq_false, not_false_eq_true, vp_narI]
    refine ih (i + 1) h3 M3 (by omega) (W2.to V3 rfl) ((V3.k 0 rfl).trans ((V2.k 0 rfl).trans eg)) (fun q hq => ?_)
    rw [E3]
    by_cases e : q = i
    · subst e; rw [upd_s]
    · rw [upd_n e, V2.k 9 rfl]; exact H q (by omega)
theorem c_M_noteBefore (hM : zMM h M) (hg : zG g) (eg : M 0 = g) (hQ : ∀ h' M', zMv [6, 7, 8, 9] h M h' M' → (∀ q, q < gN g 3 → M' 9 q = setI (plK g q)) → Q none (h', z)) : Ev 99 0 [.ref 108, zU] [] (h, z) Q := by
  simp only [e99_0, e99_1, e99_3, e99_4, e99_7, e99_8, e99_9, e99_12, e99_13, e99_16, e99_17, e99_18, e99_19, e99_22, e99_23, e99_26, e99_29, zpush, zopt_some, ↓reduceIte, List.getElem?_cons_succ, List.getElem?_cons_zero, beq_self_eq_true, true_and, and_true, Bool.true_and, Bool.and_true, Bool.false_and, Bool.and_false, nI_1, not_true_eq_false, not_false_eq_true, vp_narI]
  exact l_M_noteBefore hg h M hQ (gN g 3) 0 h M (by omega) hM.rf eg (fun q hq => absurd hq (by omega))
theorem l_M_lowest {S : Int32} {X : zX} (hS : ¬ S = 0) : ∀ (j i : Nat), i + j = 12 → hasB S j i = true → Ev 100 2 [.int S, .int (nI i)] [] X Q = Q (some (.int (lowG S j i))) X := by
  intro j
  induction j with
  | zero => intro i hi hb; cases hb
  | succ j ih =>
    intro i hi hb
    rw [hasB] at hb
    rw [e100_2, lowG]
    by_cases e : (S >>> (nI i &&& 31)) &&& 1 = 0
    · rw [if_pos e] at hb ⊢
      rw [← ih (i + 1) (by omega) hb]
      simp only [e100_0, e100_1, e100_3, e100_6, e100_7, e100_8, e100_9, e100_10, e100_11, e100_14, e100_17, e100_20, e100_21, e100_24, e100_26, e100_29, e100_30, zpush, zopt_some, ↓reduceIte, List.getElem?_cons_succ, List.getElem?_cons_zero, beq_self_eq_true, true_and, and_true, Bool.true_and, Bool.and_true, Bool.false_and, Bool.and_false, nI_1, not_true_eq_false, not_false_eq_true, vp_narI, hS, e]
    · rw [if_neg e]
      simp only [e100_0, e100_1, e100_3, e100_6, e100_7, e100_8, e100_9, e100_10, e100_11, e100_14, e100_17, e100_20, e100_21, e100_24, e100_26, e100_29, e100_30, zpush, zopt_some, ↓reduceIte, List.getElem?_cons_succ, List.getElem?_cons_zero, beq_self_eq_true, true_and, and_true, Bool.true_and, Bool.and_true, Bool.false_and, Bool.and_false, nI_1, not_true_eq_false, not_false_eq_true, vp_narI, hS, e, not_false_eq_true]
theorem c_M_lowest {S : Int32} {X : zX} (hb : S = 0 ∨ hasB S 12 0 = true) : Ev 100 0 [.int S, zU] [] X Q = Q (some (.int (lowI S))) X := by
  unfold lowI
  by_cases hS : S = 0
  · subst hS
    simp only [e100_0, e100_1, e100_2, e100_3, e100_6, e100_7, e100_8, e100_9, e100_10, e100_11, e100_14, e100_17, e100_20, e100_21, e100_24, e100_26, e100_29, e100_30, zpush, zopt_some, ↓reduceIte, List.getElem?_cons_succ, List.getElem?_cons_zero, beq_self_eq_true, true_and, and_true, Bool.true_and, Bool.and_true, Bool.false_and, Bool.and_false, nI_1, not_true_eq_false, not_false_eq_true, vp_narI]
  · have hb : hasB S 12 0 = true := by rcases hb with h | h; exact absurd h hS; exact h
    rw [if_neg hS]
    refine Eq.trans ?_ (l_M_lowest hS 12 0 rfl hb)
    simp only [e100_0, e100_1, e100_3, e100_6, e100_7, e100_8, e100_9, e100_10, e100_11, e100_14, e100_17, e100_20, e100_21, e100_24, e100_26, e100_29, e100_30, zpush, zopt_some, ↓reduceIte, List.getElem?_cons_succ, List.getElem?_cons_zero, beq_self_eq_true, true_and, and_true, Bool.true_and, Bool.and_true, Bool.false_and, Bool.and_false, nI_1, not_true_eq_false, not_false_eq_true, vp_narI]
    rfl
theorem l_M_fm {o l0 g0 : Int32} {k w2 : Int32} {kn : Nat} (hk : k = nI kn) (hkn : kn < 40) (hl : okS l0 = true) (hG : okS g0 = true) (h0 : List zC) (M0 : Nat → Nat → Int32) (b : Nat → Int32) (hQ : ∀ h' M' (v3 v4 : Int32) (v5 : Value), zMv [0, 6, 7, 8] h0 M0 h' M' → M' 0 = b → Ev 101 141 [.ref 108, .int k, .int w2, .int v3, .int v4, v5] [] (h', z) Q) :
    ∀ (j i : Nat) (v5 : Value) (h : List zC) (M : Nat → Nat → Int32) (a : Nat → Int32), i + j = 3 → zG a → gN a 4 + j ≤ 120 → a (41 + kn) = o → zMv [0, 6, 7, 8] h0 M0 h M → M 0 = a → amv o l0 g0 j i a = b → Ev 101 48 [.ref 108, .int k, .int w2, .int (clrI l0 i), .int (clrI g0 i), v5] [] (h, z) Q := by
  have r3 : zinb (nI (41 + kn)) 484 = true := zinb_nI (by omega) (by decide)
  have r4 : (nI (41 + kn)).toNatClampNeg = 41 + kn := nI_clamp (by omega)
  subst hk
  intro j
  induction j with
  | zero =>
    intro i v5 h M a hi hg h4 ho V eg hb
    have hi : i = 3 := by omega
    subst hi
    rw [e101_48, clrI_3 hl, clrI_3 hG]
    simp only [e101_0, e101_1, e101_4, e101_5, e101_6, e101_7, e101_8, e101_9, e101_10, e101_11, e101_14, e101_15, e101_16, e101_19, e101_20, e101_21, e101_24, e101_25, e101_26, e101_29, e101_30, e101_31, e101_32, e101_33, e101_34, e101_35, e101_36, e101_37, e101_38, e101_41, e101_42, e101_43, e101_44, e101_45, e101_46, e101_49, e101_52, e101_54, e101_57, e101_59, e101_60, e101_61, e101_64, e101_65, e101_66, e101_67, e101_68, e101_70, e101_71, e101_74, e101_76, e101_77, e101_80, e101_82, e101_83, e101_84, e101_85, e101_86, e101_87, e101_90, e101_92, e101_93, e101_94, e101_95, e101_98, e101_99, e101_100, e101_103, e101_105, e101_106, e101_107, e101_109, e101_112, e101_113, e101_114, e101_115, e101_116, e101_117, e101_118, e101_119, e101_121, e101_123, e101_124, e101_125, e101_126, e101_128, e101_129, e101_132, e101_133, e101_134, e101_135, e101_136, e101_137, e101_138, e101_144, e101_147, e101_148, e101_151, e101_152, e101_153, zpush, zopt_some, ↓reduceIte, List.getElem?_cons_succ, List.getElem?_cons_zero, beq_self_eq_true, true_and, and_true, Bool.true_and, Bool.and_true, Bool.false_and, Bool.and_false, nI_1, not_true_eq_false, not_false_eq_true, vp_narI]
    exact hQ h M 0 0 v5 V (eg.trans hb)
  | succ j ih =>
    intro i v5 h M a hi hg h4 ho V eg hb
    obtain ⟨n1, n2, n3⟩ := clrI_ok hl i (by omega)
    obtain ⟨p1, p2, p3⟩ := clrI_ok hG i (by omega)
    rw [amv, n1, p1] at hb
    by_cases hz : clrI l0 i = 0 ∧ clrI g0 i = 0
    · rw [if_pos (Or.inl ⟨n2.mpr hz.1, p2.mpr hz.2⟩)] at hb
      rw [e101_48, hz.1, hz.2]
      simp only [e101_0, e101_1, e101_4, e101_5, e101_6, e101_7, e101_8, e101_9, e101_10, e101_11, e101_14, e101_15, e101_16, e101_19, e101_20, e101_21, e101_24, e101_25, e101_26, e101_29, e101_30, e101_31, e101_32, e101_33, e101_34, e101_35, e101_36, e101_37, e101_38, e101_41, e101_42, e101_43, e101_44, e101_45, e101_46, e101_49, e101_52, e101_54, e101_57, e101_59, e101_60, e101_61, e101_64, e101_65, e101_66, e101_67, e101_68, e101_70, e101_71, e101_74, e101_76, e101_77, e101_80, e101_82, e101_83, e101_84, e101_85, e101_86, e101_87, e101_90, e101_92, e101_93, e101_94, e101_95, e101_98, e101_99, e101_100, e101_103, e101_105, e101_106, e101_107, e101_109, e101_112, e101_113, e101_114, e101_115, e101_116, e101_117, e101_118, e101_119, e101_121, e101_123, e101_124, e101_125, e101_126, e101_128, e101_129, e101_132, e101_133, e101_134, e101_135, e101_136, e101_137, e101_138, e101_144, e101_147, e101_148, e101_151, e101_152, e101_153, zpush, zopt_some, ↓reduceIte, List.getElem?_cons_succ, List.getElem?_cons_zero, beq_self_eq_true, true_and, and_true, Bool.true_and, Bool.and_true, Bool.false_and, Bool.and_false, nI_1, not_true_eq_false, not_false_eq_true, vp_narI]
      exact hQ h M 0 0 v5 V (eg.trans hb)
    · rw [if_neg (by rw [not_or]; exact ⟨fun h => hz ⟨n2.mp h.1, p2.mp h.2⟩, by omega⟩)] at hb
      have key : Ev 101 57 [.ref 108, .int (nI kn), .int w2, .int (clrI l0 i), .int (clrI g0 i), v5] [] (h, z) Q := by
        obtain ⟨o0, fd0, fd1, fd2, fd3, fd4, fd5, fd6, fd7, fd8, fd9, fd10, fd11, fd12, fd13, fd14, fd15, fd16, fd17, fd18, fd19, fd20, a0, a1, a2, a4, a5, a6, a7, a9, a10, a11, a14⟩ := V.mm.q
        rw [eg] at a0
        obtain ⟨q4, b4⟩ := hg.2.2.2.2.1
        have cl := fun (X : zX) (Q : Option Value → zX → Prop) => c_M_lowest (S := clrI l0 i) (X := X) (Q := Q) n3
        have cg := fun (X : zX) (Q : Option Value → zX → Prop) => c_M_lowest (S := clrI g0 i) (X := X) (Q := Q) p3
        simp only [e101_0, e101_1, e101_4, e101_5, e101_6, e101_7, e101_8, e101_9, e101_10, e101_11, e101_14, e101_15, e101_16, e101_19, e101_20, e101_21, e101_24, e101_25, e101_26, e101_29, e101_30, e101_31, e101_32, e101_33, e101_34, e101_35, e101_36, e101_37, e101_38, e101_41, e101_42, e101_43, e101_44, e101_45, e101_46, e101_49, e101_52, e101_54, e101_57, e101_59, e101_60, e101_61, e101_64, e101_65, e101_66, e101_67, e101_68, e101_70, e101_71, e101_74, e101_76, e101_77, e101_80, e101_82, e101_83, e101_84, e101_86, e101_87, e101_90, e101_92, e101_93, e101_94, e101_95, e101_98, e101_99, e101_100, e101_103, e101_105, e101_106, e101_107, e101_109, e101_112, e101_113, e101_114, e101_115, e101_116, e101_117, e101_118, e101_119, e101_121, e101_123, e101_124, e101_125, e101_126, e101_128, e101_129, e101_132, e101_133, e101_134, e101_135, e101_136, e101_137, e101_138, e101_144, e101_147, e101_148, e101_151, e101_152, e101_153, zpush, zopt_some, ↓reduceIte, List.getElem?_cons_succ, List.getElem?_cons_zero, beq_self_eq_true, true_and, and_true, Bool.true_and, Bool.and_true, Bool.false_and, Bool.and_false, nI_1, not_true_eq_false, not_false_eq_true, vp_narI, k5, k17, k29, k41, k81, k121, j484_0, cl_0, j484_1, cl_1, j484_2, cl_2, j484_3, cl_3, j484_4, cl_4, o0, ↓fd0, ↓fd1, ↓fd2, ↓fd3, ↓fd4, ↓fd5, ↓fd6, ↓fd7, ↓fd8, ↓fd9, ↓fd10, ↓fd11, ↓fd12, ↓fd13, ↓fd14, ↓fd15, ↓fd16, ↓fd17, ↓fd18, ↓fd19, ↓fd20, ↓a0, q4, nI_3m, r3, r4, ho]
        rw [e101_85]
        refine V.mm.w0 rfl (by omega) (fun h1 M1 V1 E1 => ?_)
        obtain ⟨o0, fd0, fd1, fd2, fd3, fd4, fd5, fd6, fd7, fd8, fd9, fd10, fd11, fd12, fd13, fd14, fd15, fd16, fd17, fd18, fd19, fd20, a0, a1, a2, a4, a5, a6, a7, a9, a10, a11, a14⟩ := V1.mm.q
        simp only [e101_0, e101_1, e101_4, e101_5, e101_6, e101_7, e101_8, e101_9, e101_10, e101_11, e101_14, e101_15, e101_16, e101_19, e101_20, e101_21, e101_24, e101_25, e101_26, e101_29, e101_30, e101_31, e101_32, e101_33, e101_34, e101_35, e101_36, e101_37, e101_38, e101_41, e101_42, e101_43, e101_44, e101_45, e101_46, e101_49, e101_52, e101_54, e101_57, e101_59, e101_60, e101_61, e101_64, e101_65, e101_66, e101_67, e101_68, e101_70, e101_71, e101_74, e101_76, e101_77, e101_80, e101_82, e101_83, e101_84, e101_85, e101_86, e101_87, e101_90, e101_92, e101_93, e101_94, e101_95, e101_99, e101_100, e101_103, e101_105, e101_106, e101_107, e101_109, e101_112, e101_113, e101_114, e101_115, e101_116, e101_117, e101_118, e101_119, e101_121, e101_123, e101_124, e101_125, e101_126, e101_128, e101_129, e101_132, e101_133, e101_134, e101_135, e101_136, e101_137, e101_138, e101_144, e101_147, e101_148, e101_151, e101_152, e101_153, zpush, zopt_some, ↓reduceIte, List.getElem?_cons_succ, List.getElem?_cons_zero, beq_self_eq_true, true_and, and_true, Bool.true_and, Bool.and_true, Bool.false_and, Bool.and_false, nI_1, not_true_eq_false, not_false_eq_true, vp_narI, k5, k17, k29, k41, k81, k121, j484_0, cl_0, j484_1, cl_1, j484_2, cl_2, j484_3, cl_3, j484_4, cl_4, o0, ↓fd0, ↓fd1, ↓fd2, ↓fd3, ↓fd4, ↓fd5, ↓fd6, ↓fd7, ↓fd8, ↓fd9, ↓fd10, ↓fd11, ↓fd12, ↓fd13, ↓fd14, ↓fd15, ↓fd16, ↓fd17, ↓fd18, ↓fd19, ↓fd20, cl]
        rw [e101_98]
        refine V1.mm.w0 rfl (by omega) (fun h2 M2 V2 E2 => ?_)
        obtain ⟨o0, fd0, fd1, fd2, fd3, fd4, fd5, fd6, fd7, fd8, fd9, fd10, fd11, fd12, fd13, fd14, fd15, fd16, fd17, fd18, fd19, fd20, a0, a1, a2, a4, a5, a6, a7, a9, a10, a11, a14⟩ := V2.mm.q
        simp only [e101_0, e101_1, e101_4, e101_5, e101_6, e101_7, e101_8, e101_9, e101_10, e101_11, e101_14, e101_15, e101_16, e101_19, e101_20, e101_21, e101_24, e101_25, e101_26, e101_29, e101_30, e101_31, e101_32, e101_33, e101_34, e101_35, e101_36, e101_37, e101_38, e101_41, e101_42, e101_43, e101_44, e101_45, e101_46, e101_49, e101_52, e101_54, e101_57, e101_59, e101_60, e101_61, e101_64, e101_65, e101_66, e101_67, e101_68, e101_70, e101_71, e101_74, e101_76, e101_77, e101_80, e101_82, e101_83, e101_84, e101_85, e101_86, e101_87, e101_90, e101_92, e101_93, e101_94, e101_95, e101_98, e101_99, e101_100, e101_103, e101_105, e101_106, e101_107, e101_109, e101_113, e101_114, e101_115, e101_116, e101_117, e101_118, e101_119, e101_121, e101_123, e101_124, e101_125, e101_126, e101_128, e101_129, e101_132, e101_133, e101_134, e101_135, e101_136, e101_137, e101_138, e101_144, e101_147, e101_148, e101_151, e101_152, e101_153, zpush, zopt_some, ↓reduceIte, List.getElem?_cons_succ, List.getElem?_cons_zero, beq_self_eq_true, true_and, and_true, Bool.true_and, Bool.and_true, Bool.false_and, Bool.and_false, nI_1, not_true_eq_false, not_false_eq_true, vp_narI, k5, k17, k29, k41, k81, k121, j484_0, cl_0, j484_1, cl_1, j484_2, cl_2, j484_3, cl_3, j484_4, cl_4, o0, ↓fd0, ↓fd1, ↓fd2, ↓fd3, ↓fd4, ↓fd5, ↓fd6, ↓fd7, ↓fd8, ↓fd9, ↓fd10, ↓fd11, ↓fd12, ↓fd13, ↓fd14, ↓fd15, ↓fd16, ↓fd17, ↓fd18, ↓fd19, ↓fd20, cg, nI_2]
        rw [e101_112]
        refine V2.mm.w0 rfl (by omega) (fun h3 M3 V3 E3 => ?_)
        obtain ⟨o0, fd0, fd1, fd2, fd3, fd4, fd5, fd6, fd7, fd8, fd9, fd10, fd11, fd12, fd13, fd14, fd15, fd16, fd17, fd18, fd19, fd20, a0, a1, a2, a4, a5, a6, a7, a9, a10, a11, a14⟩ := V3.mm.q
        have e4 : M3 0 4 = nI (gN a 4) := by rw [E3, upd_n (by omega), E2, upd_n (by omega), E1, upd_n (by omega), eg]; exact q4
        simp only [e101_0, e101_1, e101_4, e101_5, e101_6, e101_7, e101_8, e101_9, e101_10, e101_11, e101_14, e101_15, e101_16, e101_19, e101_20, e101_21, e101_24, e101_25, e101_26, e101_29, e101_30, e101_31, e101_32, e101_33, e101_34, e101_35, e101_36, e101_37, e101_38, e101_41, e101_42, e101_43, e101_44, e101_45, e101_46, e101_49, e101_52, e101_54, e101_57, e101_59, e101_60, e101_61, e101_64, e101_65, e101_66, e101_67, e101_68, e101_70, e101_71, e101_74, e101_76, e101_77, e101_80, e101_82, e101_83, e101_84, e101_85, e101_86, e101_87, e101_90, e101_92, e101_93, e101_94, e101_95, e101_98, e101_99, e101_100, e101_103, e101_105, e101_106, e101_107, e101_109, e101_112, e101_113, e101_114, e101_115, e101_116, e101_117, e101_118, e101_119, e101_121, e101_123, e101_124, e101_125, e101_126, e101_128, e101_129, e101_132, e101_133, e101_134, e101_135, e101_136, e101_138, e101_144, e101_147, e101_148, e101_151, e101_152, e101_153, zpush, zopt_some, ↓reduceIte, List.getElem?_cons_succ, List.getElem?_cons_zero, beq_self_eq_true, true_and, and_true, Bool.true_and, Bool.and_true, Bool.false_and, Bool.and_false, nI_1, not_true_eq_false, not_false_eq_true, vp_narI, k5, k17, k29, k41, k81, k121, j484_0, cl_0, j484_1, cl_1, j484_2, cl_2, j484_3, cl_3, j484_4, cl_4, o0, ↓fd0, ↓fd1, ↓fd2, ↓fd3, ↓fd4, ↓fd5, ↓fd6, ↓fd7, ↓fd8, ↓fd9, ↓fd10, ↓fd11, ↓fd12, ↓fd13, ↓fd14, ↓fd15, ↓fd16, ↓fd17, ↓fd18, ↓fd19, ↓fd20, ↓a0, e4]
        rw [e101_137]
        refine V3.mm.w0 (i := 4) rfl (by omega) (fun h4 M4 V4 E4 => ?_)
        simp only [e101_0, e101_1, e101_4, e101_5, e101_6, e101_7, e101_8, e101_9, e101_10, e101_11, e101_14, e101_15, e101_16, e101_19, e101_20, e101_21, e101_24, e101_25, e101_26, e101_29, e101_30, e101_31, e101_32, e101_33, e101_34, e101_35, e101_36, e101_37, e101_38, e101_41, e101_42, e101_43, e101_44, e101_45, e101_46, e101_49, e101_52, e101_54, e101_57, e101_59, e101_60, e101_61, e101_64, e101_65, e101_66, e101_67, e101_68, e101_70, e101_71, e101_74, e101_76, e101_77, e101_80, e101_82, e101_83, e101_84, e101_85, e101_86, e101_87, e101_90, e101_92, e101_93, e101_94, e101_95, e101_98, e101_99, e101_100, e101_103, e101_105, e101_106, e101_107, e101_109, e101_112, e101_113, e101_114, e101_115, e101_116, e101_117, e101_118, e101_119, e101_121, e101_123, e101_124, e101_125, e101_126, e101_128, e101_129, e101_132, e101_133, e101_134, e101_135, e101_136, e101_138, e101_144, e101_147, e101_148, e101_151, e101_152, e101_153, zpush, zopt_some, ↓reduceIte, List.getElem?_cons_succ, List.getElem?_cons_zero, beq_self_eq_true, true_and, and_true, Bool.true_and, Bool.and_true, Bool.false_and, Bool.and_false, nI_1, not_true_eq_false, not_false_eq_true, vp_narI]
        have ea : M4 0 = addM a o (lowI (clrI l0 i)) (lowI (clrI g0 i)) := by
          rw [E4, E3, E2, E1, eg]
          unfold addM
          rw [show 121 + 3 * gN a 4 + 1 = 122 + 3 * gN a 4 by omega, show 121 + 3 * gN a 4 + 2 = 123 + 3 * gN a 4 by omega]
        have en := gN_addM (a := a) (o := o) (f := lowI (clrI l0 i)) (t := lowI (clrI g0 i)) (by omega)
        refine ih (i + 1) _ h4 M4 _ (by omega) (zG_addM hg (by omega)) (by rw [en]; omega) ?_ ((((V.to V1 rfl).to V2 rfl).to V3 rfl).to V4 rfl) ea hb
        unfold addM
        rw [upd_n (by omega), upd_n (by omega), upd_n (by omega), upd_n (by omega)]
        exact ho
      rw [e101_48]
      by_cases hz1 : clrI l0 i = 0
      · have hz2 : ¬ clrI g0 i = 0 := fun e => hz ⟨hz1, e⟩
        rw [hz1] at key ⊢
        simp only [e101_0, e101_1, e101_4, e101_5, e101_6, e101_7, e101_8, e101_9, e101_10, e101_11, e101_14, e101_15, e101_16, e101_19, e101_20, e101_21, e101_24, e101_25, e101_26, e101_29, e101_30, e101_31, e101_32, e101_33, e101_34, e101_35, e101_36, e101_37, e101_38, e101_41, e101_42, e101_43, e101_44, e101_45, e101_46, e101_49, e101_52, e101_54, e101_59, e101_60, e101_61, e101_64, e101_65, e101_66, e101_67, e101_68, e101_70, e101_71, e101_74, e101_76, e101_77, e101_80, e101_82, e101_83, e101_84, e101_85, e101_86, e101_87, e101_90, e101_92, e101_93, e101_94, e101_95, e101_98, e101_99, e101_100, e101_103, e101_105, e101_106, e101_107, e101_109, e101_112, e101_113, e101_114, e101_115, e101_116, e101_117, e101_118, e101_119, e101_121, e101_123, e101_124, e101_125, e101_126, e101_128, e101_129, e101_132, e101_133, e101_134, e101_135, e101_136, e101_137, e101_138, e101_144, e101_147, e101_148, e101_151, e101_152, e101_153, zpush, zopt_some, ↓reduceIte, List.getElem?_cons_succ, List.getElem?_cons_zero, beq_self_eq_true, true_and, and_true, Bool.true_and, Bool.and_true, Bool.false_and, Bool.and_false, nI_1, not_true_eq_false, not_false_eq_true, vp_narI, hz2]
        exact key
      · simp only [e101_0, e101_1, e101_4, e101_5, e101_6, e101_7, e101_8, e101_9, e101_10, e101_11, e101_14, e101_15, e101_16, e101_19, e101_20, e101_21, e101_24, e101_25, e101_26, e101_29, e101_30, e101_31, e101_32, e101_33, e101_34, e101_35, e101_36, e101_37, e101_38, e101_41, e101_42, e101_43, e101_44, e101_45, e101_46, e101_49, e101_52, e101_54, e101_59, e101_60, e101_61, e101_64, e101_65, e101_66, e101_67, e101_68, e101_70, e101_71, e101_74, e101_76, e101_77, e101_80, e101_82, e101_83, e101_84, e101_85, e101_86, e101_87, e101_90, e101_92, e101_93, e101_94, e101_95, e101_98, e101_99, e101_100, e101_103, e101_105, e101_106, e101_107, e101_109, e101_112, e101_113, e101_114, e101_115, e101_116, e101_117, e101_118, e101_119, e101_121, e101_123, e101_124, e101_125, e101_126, e101_128, e101_129, e101_132, e101_133, e101_134, e101_135, e101_136, e101_137, e101_138, e101_144, e101_147, e101_148, e101_151, e101_152, e101_153, zpush, zopt_some, ↓reduceIte, List.getElem?_cons_succ, List.getElem?_cons_zero, beq_self_eq_true, true_and, and_true, Bool.true_and, Bool.and_true, Bool.false_and, Bool.and_false, nI_1, not_true_eq_false, not_false_eq_true, vp_narI, hz1, not_false_eq_true]
        exact key
theorem l_M_findMoves {a0' b : Nat → Int32} (h0' : zG a0') (hg : zG b) (h0 : List zC) (M0 : Nat → Nat → Int32) (hB : ∀ q, q < gN b 3 → M0 9 q = setI (plK a0' q)) (hQ : ∀ h' M', zMv [0, 6, 7, 8] h0 M0 h' M' → M' 0 = fmA a0' b → Q (some (.int (fmA a0' b 4))) (h', z)) :
    ∀ (j i : Nat) (v2 v3 v4 v5 : Value) (h : List zC) (M : Nat → Nat → Int32), i + j = gN b 3 → zMv [0, 6, 7, 8] h0 M0 h M → M 0 = mvs a0' b i → Ev 101 9 [.ref 108, .int (nI i), v2, v3, v4, v5] [] (h, z) Q := by
  obtain ⟨h3, b3⟩ := hg.2.2.2.1
  intro j
  induction j with
  | zero =>
    intro i v2 v3 v4 v5 h M hi V eg
    have hi : i = gN b 3 := by omega
    subst hi
    obtain ⟨o0, fd0, fd1, fd2, fd3, fd4, fd5, fd6, fd7, fd8, fd9, fd10, fd11, fd12, fd13, fd14, fd15, fd16, fd17, fd18, fd19, fd20, a0, a1, a2, a4, a5, a6, a7, a9, a10, a11, a14⟩ := V.mm.q
    rw [eg] at a0
    have e3 : mvs a0' b (gN b 3) 3 = b 3 := (mvs_ok (a0 := a0') hg (gN b 3)).2 3 (by decide) (by decide)
    have e1 : b 3 ≤ nI (gN b 3) := by rw [← h3]; exact Int32.le_refl _
    rw [e101_9]
    simp only [e101_0, e101_1, e101_4, e101_5, e101_6, e101_7, e101_8, e101_10, e101_11, e101_14, e101_15, e101_16, e101_19, e101_20, e101_21, e101_24, e101_25, e101_26, e101_29, e101_30, e101_31, e101_32, e101_33, e101_34, e101_35, e101_36, e101_37, e101_38, e101_41, e101_42, e101_43, e101_44, e101_45, e101_46, e101_48, e101_49, e101_52, e101_54, e101_57, e101_59, e101_60, e101_61, e101_64, e101_65, e101_66, e101_67, e101_68, e101_70, e101_71, e101_74, e101_76, e101_77, e101_80, e101_82, e101_83, e101_84, e101_85, e101_86, e101_87, e101_90, e101_92, e101_93, e101_94, e101_95, e101_98, e101_99, e101_100, e101_103, e101_105, e101_106, e101_107, e101_109, e101_112, e101_113, e101_114, e101_115, e101_116, e101_117, e101_118, e101_119, e101_121, e101_123, e101_124, e101_125, e101_126, e101_128, e101_129, e101_132, e101_133, e101_134, e101_135, e101_136, e101_137, e101_138, e101_141, e101_144, e101_147, e101_148, e101_151, e101_152, e101_153, zpush, zopt_some, ↓reduceIte, List.getElem?_cons_succ, List.getElem?_cons_zero, beq_self_eq_true, true_and, and_true, Bool.true_and, Bool.and_true, Bool.false_and, Bool.and_false, nI_1, not_true_eq_false, not_false_eq_true, vp_narI, k5, k17, k29, k41, k81, k121, j484_0, cl_0, j484_1, cl_1, j484_2, cl_2, j484_3, cl_3, j484_4, cl_4, o0, ↓fd0, ↓fd1, ↓fd2, ↓fd3, ↓fd4, ↓fd5, ↓fd6, ↓fd7, ↓fd8, ↓fd9, ↓fd10, ↓fd11, ↓fd12, ↓fd13, ↓fd14, ↓fd15, ↓fd16, ↓fd17, ↓fd18, ↓fd19, ↓fd20, ↓a0, e3, e1]
    exact hQ h M V eg
  | succ j ih =>
    intro i v2 v3 v4 v5 h M hi V eg
    obtain ⟨o0, fd0, fd1, fd2, fd3, fd4, fd5, fd6, fd7, fd8, fd9, fd10, fd11, fd12, fd13, fd14, fd15, fd16, fd17, fd18, fd19, fd20, a0, a1, a2, a4, a5, a6, a7, a9, a10, a11, a14⟩ := V.mm.q
    rw [eg] at a0
    have hlt : i < gN b 3 := by omega
    obtain ⟨mg, me⟩ := mvs_ok (a0 := a0') hg i
    have e3 : mvs a0' b i 3 = b 3 := me 3 (by decide) (by decide)
    have n3 : gN (mvs a0' b i) 3 = gN b 3 := me.g (by decide) (by decide)
    have e1 : ¬ b 3 ≤ nI i := by rw [h3]; exact nI_ge hlt (by omega)
    have ep : plK (mvs a0' b i) i = plK b i := me.c_plK hg (by omega)
    have e5 : zinb (nI i) 40 = true := zinb_nI (by omega) (by decide)
    have e6 : (nI i).toNatClampNeg = i := nI_clamp (by omega)
    rw [e101_9]
    simp only [e101_0, e101_1, e101_4, e101_5, e101_6, e101_7, e101_8, e101_10, e101_11, e101_14, e101_15, e101_16, e101_19, e101_20, e101_21, e101_24, e101_25, e101_26, e101_29, e101_30, e101_31, e101_32, e101_33, e101_34, e101_35, e101_36, e101_37, e101_38, e101_41, e101_42, e101_43, e101_44, e101_45, e101_46, e101_48, e101_49, e101_52, e101_54, e101_57, e101_59, e101_60, e101_61, e101_64, e101_65, e101_66, e101_67, e101_68, e101_70, e101_71, e101_74, e101_76, e101_77, e101_80, e101_82, e101_83, e101_84, e101_85, e101_86, e101_87, e101_90, e101_92, e101_93, e101_94, e101_95, e101_98, e101_99, e101_100, e101_103, e101_105, e101_106, e101_107, e101_109, e101_112, e101_113, e101_114, e101_115, e101_116, e101_117, e101_118, e101_119, e101_121, e101_123, e101_124, e101_125, e101_126, e101_128, e101_129, e101_132, e101_133, e101_134, e101_135, e101_136, e101_137, e101_138, e101_141, e101_144, e101_147, e101_148, e101_151, e101_152, e101_153, zpush, zopt_some, ↓reduceIte, List.getElem?_cons_succ, List.getElem?_cons_zero, beq_self_eq_true, true_and, and_true, Bool.true_and, Bool.and_true, Bool.false_and, Bool.and_false, nI_1, not_true_eq_false, not_false_eq_true, vp_narI, k5, k17, k29, k41, k81, k121, j484_0, cl_0, j484_1, cl_1, j484_2, cl_2, j484_3, cl_3, j484_4, cl_4, o0, ↓fd0, ↓fd1, ↓fd2, ↓fd3, ↓fd4, ↓fd5, ↓fd6, ↓fd7, ↓fd8, ↓fd9, ↓fd10, ↓fd11, ↓fd12, ↓fd13, ↓fd14, ↓fd15, ↓fd16, ↓fd17, ↓fd18, ↓fd19, ↓fd20, ↓a0, e3, e1]
    refine c_M_setOf V.mm mg eg (by rw [n3]; exact hlt) (fun h2 M2 V2 P2 => ?_)
    have W2 := V.to V2 rfl
    obtain ⟨o0, fd0, fd1, fd2, fd3, fd4, fd5, fd6, fd7, fd8, fd9, fd10, fd11, fd12, fd13, fd14, fd15, fd16, fd17, fd18, fd19, fd20, a0, a1, a2, a4, a5, a6, a7, a9, a10, a11, a14⟩ := V2.mm.q
    have e9 : M2 9 i = setI (plK a0' i) := by rw [W2.k 9 rfl]; exact hB i hlt
    rw [ep]
    simp only [e101_0, e101_1, e101_4, e101_5, e101_6, e101_7, e101_8, e101_10, e101_11, e101_14, e101_15, e101_16, e101_19, e101_20, e101_21, e101_24, e101_25, e101_26, e101_29, e101_30, e101_31, e101_32, e101_33, e101_34, e101_35, e101_36, e101_37, e101_38, e101_41, e101_42, e101_43, e101_44, e101_45, e101_46, e101_49, e101_52, e101_54, e101_57, e101_59, e101_60, e101_61, e101_64, e101_65, e101_66, e101_67, e101_68, e101_70, e101_71, e101_74, e101_76, e101_77, e101_80, e101_82, e101_83, e101_84, e101_85, e101_86, e101_87, e101_90, e101_92, e101_93, e101_94, e101_95, e101_98, e101_99, e101_100, e101_103, e101_105, e101_106, e101_107, e101_109, e101_112, e101_113, e101_114, e101_115, e101_116, e101_117, e101_118, e101_119, e101_121, e101_123, e101_124, e101_125, e101_126, e101_128, e101_129, e101_132, e101_133, e101_134, e101_135, e101_136, e101_137, e101_138, e101_141, e101_144, e101_147, e101_148, e101_151, e101_152, e101_153, zpush, zopt_some, ↓reduceIte, List.getElem?_cons_succ, List.getElem?_cons_zero, beq_self_eq_true, true_and, and_true, Bool.true_and, Bool.and_true, Bool.false_and, Bool.and_false, nI_1, not_true_eq_false, not_false_eq_true, vp_narI, k5, k17, k29, k41, k81, k121, j484_0, cl_0, j484_1, cl_1, j484_2, cl_2, j484_3, cl_3, j484_4, cl_4, o0, ↓fd0, ↓fd1, ↓fd2, ↓fd3, ↓fd4, ↓fd5, ↓fd6, ↓fd7, ↓fd8, ↓fd9, ↓fd10, ↓fd11, ↓fd12, ↓fd13, ↓fd14, ↓fd15, ↓fd16, ↓fd17, ↓fd18, ↓fd19, ↓fd20, ↓a9, e5, e6, e9]
    have hc := mvs_c h0' hg i (by omega)
    have hl := mxS_le a0' b i
    refine l_M_fm (o := b (41 + i)) (l0 := lostI a0' b i) (g0 := gotI a0' b i) (kn := i) rfl (by omega) (okS_and h0' i _) (okS_and hg i _) h0 M0 (mvs a0' b (i + 1)) (fun h4 M4 w3 w4 w5 V4 eg4 => ?_) 3 0 v5 h2 M2 (mvs a0' b i) rfl mg (by rw [hc]; omega) (me (41 + i) (by omega) (by omega)) W2 ((V2.k 0 rfl).trans eg) rfl
    rw [e101_141]
    simp only [e101_0, e101_1, e101_4, e101_5, e101_6, e101_7, e101_8, e101_10, e101_11, e101_14, e101_15, e101_16, e101_19, e101_20, e101_21, e101_24, e101_25, e101_26, e101_29, e101_30, e101_31, e101_32, e101_33, e101_34, e101_35, e101_36, e101_37, e101_38, e101_41, e101_42, e101_43, e101_44, e101_45, e101_46, e101_48, e101_49, e101_52, e101_54, e101_57, e101_59, e101_60, e101_61, e101_64, e101_65, e101_66, e101_67, e101_68, e101_70, e101_71, e101_74, e101_76, e101_77, e101_80, e101_82, e101_83, e101_84, e101_85, e101_86, e101_87, e101_90, e101_92, e101_93, e101_94, e101_95, e101_98, e101_99, e101_100, e101_103, e101_105, e101_106, e101_107, e101_109, e101_112, e101_113, e101_114, e101_115, e101_116, e101_117, e101_118, e101_119, e101_121, e101_123, e101_124, e101_125, e101_126, e101_128, e101_129, e101_132, e101_133, e101_134, e101_135, e101_136, e101_137, e101_138, e101_144, e101_147, e101_148, e101_151, e101_152, e101_153, zpush, zopt_some, ↓reduceIte, List.getElem?_cons_succ, List.getElem?_cons_zero, beq_self_eq_true, true_and, and_true, Bool.true_and, Bool.and_true, Bool.false_and, Bool.and_false, nI_1, not_true_eq_false, not_false_eq_true, vp_narI]
    exact ih (i + 1) _ _ _ _ h4 M4 (by omega) V4 eg4
theorem c_M_findMoves {a0' b : Nat → Int32} (hM : zMM h M) (h0' : zG a0') (hg : zG b) (eg : M 0 = b) (hB : ∀ q, q < gN b 3 → M 9 q = setI (plK a0' q)) (hQ : ∀ h' M', zMv [0, 6, 7, 8] h M h' M' → M' 0 = fmA a0' b → Q (some (.int (fmA a0' b 4))) (h', z)) :
    Ev 101 0 [.ref 108, zU, zU, zU, zU, zU] [] (h, z) Q := by
  obtain ⟨o0, fd0, fd1, fd2, fd3, fd4, fd5, fd6, fd7, fd8, fd9, fd10, fd11, fd12, fd13, fd14, fd15, fd16, fd17, fd18, fd19, fd20, a0, a1, a2, a4, a5, a6, a7, a9, a10, a11, a14⟩ := hM.q
  simp only [e101_0, e101_1, e101_4, e101_5, e101_7, e101_8, e101_10, e101_11, e101_14, e101_15, e101_16, e101_19, e101_20, e101_21, e101_24, e101_25, e101_26, e101_29, e101_30, e101_31, e101_32, e101_33, e101_34, e101_35, e101_36, e101_37, e101_38, e101_41, e101_42, e101_43, e101_44, e101_45, e101_46, e101_48, e101_49, e101_52, e101_54, e101_57, e101_59, e101_60, e101_61, e101_64, e101_65, e101_66, e101_67, e101_68, e101_70, e101_71, e101_74, e101_76, e101_77, e101_80, e101_82, e101_83, e101_84, e101_85, e101_86, e101_87, e101_90, e101_92, e101_93, e101_94, e101_95, e101_98, e101_99, e101_100, e101_103, e101_105, e101_106, e101_107, e101_109, e101_112, e101_113, e101_114, e101_115, e101_116, e101_117, e101_118, e101_119, e101_121, e101_123, e101_124, e101_125, e101_126, e101_128, e101_129, e101_132, e101_133, e101_134, e101_135, e101_136, e101_137, e101_138, e101_141, e101_144, e101_147, e101_148, e101_151, e101_152, e101_153, zpush, zopt_some, ↓reduceIte, List.getElem?_cons_succ, List.getElem?_cons_zero, beq_self_eq_true, true_and, and_true, Bool.true_and, Bool.and_true, Bool.false_and, Bool.and_false, nI_1, not_true_eq_false, not_false_eq_true, vp_narI, o0, ↓fd0, ↓fd1, ↓fd2, ↓fd3, ↓fd4, ↓fd5, ↓fd6, ↓fd7, ↓fd8, ↓fd9, ↓fd10, ↓fd11, ↓fd12, ↓fd13, ↓fd14, ↓fd15, ↓fd16, ↓fd17, ↓fd18, ↓fd19, ↓fd20]
  rw [e101_6]
  refine hM.w0 (i := 4) rfl (by omega) (fun h1 M1 V1 E1 => ?_)
  simp only [e101_0, e101_1, e101_4, e101_5, e101_7, e101_8, e101_10, e101_11, e101_14, e101_15, e101_16, e101_19, e101_20, e101_21, e101_24, e101_25, e101_26, e101_29, e101_30, e101_31, e101_32, e101_33, e101_34, e101_35, e101_36, e101_37, e101_38, e101_41, e101_42, e101_43, e101_44, e101_45, e101_46, e101_48, e101_49, e101_52, e101_54, e101_57, e101_59, e101_60, e101_61, e101_64, e101_65, e101_66, e101_67, e101_68, e101_70, e101_71, e101_74, e101_76, e101_77, e101_80, e101_82, e101_83, e101_84, e101_85, e101_86, e101_87, e101_90, e101_92, e101_93, e101_94, e101_95, e101_98, e101_99, e101_100, e101_103, e101_105, e101_106, e101_107, e101_109, e101_112, e101_113, e101_114, e101_115, e101_116, e101_117, e101_118, e101_119, e101_121, e101_123, e101_124, e101_125, e101_126, e101_128, e101_129, e101_132, e101_133, e101_134, e101_135, e101_136, e101_137, e101_138, e101_141, e101_144, e101_147, e101_148, e101_151, e101_152, e101_153, zpush, zopt_some, ↓reduceIte, List.getElem?_cons_succ, List.getElem?_cons_zero, beq_self_eq_true, true_and, and_true, Bool.true_and, Bool.and_true, Bool.false_and, Bool.and_false, nI_1, not_true_eq_false, not_false_eq_true, vp_narI]
  exact l_M_findMoves h0' hg h M hB hQ (gN b 3) 0 _ _ _ _ h1 M1 (by omega) (V1.mono rfl) (by rw [E1, eg]; rfl)
end ZC
end
