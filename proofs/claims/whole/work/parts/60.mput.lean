/-! the model's pad gets characters -/
section
set_option maxRecDepth 100000
theorem dec1 (x : Int32) : x + (-1) = x - 1 := (Int32.sub_eq_add_neg x 1).symm
def apM (x : Int64) (l n i : Nat) (f : Nat → Int32) : Nat → Int32 := fun q => if l ≤ q ∧ q < l + i then nI (xN x / 256 ^ (l + n - 1 - q) % 256) else f q
theorem apM_0 (x : Int64) (l n : Nat) (f : Nat → Int32) : apM x l n 0 f = f := by
  funext q; unfold apM; rw [if_neg (by omega)]
theorem apM_s (x : Int64) {l n i : Nat} (f : Nat → Int32) (hi : i < n) : upd (apM x l n i f) (l + i) (nI (xN x / 256 ^ (n - 1 - i) % 256)) = apM x l n (i + 1) f := by
  funext q
  by_cases e : q = l + i
  · subst e
    rw [upd_s]
    unfold apM
    rw [if_pos (by omega), show l + n - 1 - (l + i) = n - 1 - i by omega]
  · rw [upd_n e]
    unfold apM
    by_cases h : l ≤ q ∧ q < l + i
    · rw [if_pos h, if_pos (by omega)]
    · rw [if_neg h, if_neg (by omega)]
theorem apM_n (x : Int64) (l n : Nat) (f : Nat → Int32) : apM x l n n f = apF x l n n f := by
  funext q
  unfold apM apF
  by_cases h : l ≤ q ∧ q < l + n
  · rw [if_pos h, if_pos (by omega)]
  · rw [if_neg h, if_neg (by omega)]
section ZC
variable {h : List zC} {z : Nat × (Nat × (Nat → Int32))} {M : Nat → Nat → Int32} {Q : Option Value → zX → Prop}
theorem l_M_put1 {x : Int64} {res : Int32} {X : zX} (hneg : res = -2 → Q (some (.int (-2))) X) (hpos : ∀ (n : Nat) (r : Int64), 1 ≤ n → n ≤ 8 → res = nI n → Ev 135 87 [.ref 108, .long x, zU, .int (nI n), .int 1, .long r, zU, zU] [] X Q) :
    ∀ (j i : Nat) (r : Int64) (good : Bool), i + j = 8 → xN r = xN x / 256 ^ i → (if good = true then cls (xN x) j i else -2) = res → Ev 135 8 [.ref 108, .long x, zU, .int (nI i), .int (zb good), .long r, zU, zU] [] X Q := by
  intro j
  induction j with
  | zero =>
    intro i r good hi hr hres
    have hi : i = 8 := by omega
    subst hi
    have e0 : (8 : Int32) ≤ nI 8 := by decide
    have e1 : ¬ nI 8 = 0 := by decide
    have hx := xN_lt x
    have hr0 : r = 0 := by
      apply xN_inj
      rw [hr, Nat.div_eq_of_lt (by omega)]
      rfl
    have e2 : lg_cmp r 0 = 0 := (lg_cmp_eq _ _).mpr hr0
    rw [e135_8]
    cases good with
    | true =>
      simp only [e135_0, e135_1, e135_2, e135_3, e135_5, e135_6, e135_9, e135_11, e135_14, e135_16, e135_19, e135_20, e135_21, e135_22, e135_25, e135_27, e135_30, e135_32, e135_35, e135_36, e135_39, e135_42, e135_45, e135_48, e135_49, e135_52, e135_53, e135_55, e135_57, e135_59, e135_60, e135_62, e135_65, e135_68, e135_69, e135_72, e135_74, e135_75, e135_76, e135_79, e135_81, e135_84, e135_86, e135_88, e135_91, e135_92, e135_93, e135_95, e135_98, e135_100, e135_101, e135_102, e135_103, e135_104, e135_106, e135_108, e135_111, e135_112, e135_115, e135_116, e135_119, e135_120, e135_122, e135_124, e135_125, e135_126, e135_129, e135_130, e135_131, e135_132, e135_133, e135_134, e135_137, e135_138, e135_139, e135_142, e135_145, e135_148, e135_149, e135_152, zpush, zopt_some, ↓reduceIte, List.getElem?_cons_succ, List.getElem?_cons_zero, beq_self_eq_true, true_and, and_true, Bool.true_and, Bool.and_true, Bool.false_and, Bool.and_false, nI_1, not_true_eq_false, not_false_eq_true, vp_narI, e0, e1, e2, zb_t, (show ¬ (1 : Int32) = 0 by decide), not_false_eq_true]
      exact hpos 8 r (by decide) (by decide) hres.symm
    | false =>
      simp only [e135_0, e135_1, e135_2, e135_3, e135_5, e135_6, e135_9, e135_11, e135_14, e135_16, e135_19, e135_20, e135_21, e135_22, e135_25, e135_27, e135_30, e135_32, e135_35, e135_36, e135_39, e135_42, e135_45, e135_48, e135_49, e135_52, e135_53, e135_55, e135_57, e135_59, e135_60, e135_62, e135_65, e135_68, e135_69, e135_72, e135_74, e135_75, e135_76, e135_79, e135_81, e135_84, e135_86, e135_88, e135_91, e135_92, e135_93, e135_95, e135_98, e135_100, e135_101, e135_102, e135_103, e135_104, e135_106, e135_108, e135_111, e135_112, e135_115, e135_116, e135_119, e135_120, e135_122, e135_124, e135_125, e135_126, e135_129, e135_130, e135_131, e135_132, e135_133, e135_134, e135_137, e135_138, e135_139, e135_142, e135_145, e135_148, e135_149, e135_152, zpush, zopt_some, ↓reduceIte, List.getElem?_cons_succ, List.getElem?_cons_zero, beq_self_eq_true, true_and, and_true, Bool.true_and, Bool.and_true, Bool.false_and, Bool.and_false, nI_1, not_true_eq_false, not_false_eq_true, vp_narI, e0, e1, e2, zb_f]
      exact hneg hres.symm
  | succ j ih =>
    intro i r good hi hr hres
    have e0 : ¬ (8 : Int32) ≤ nI i := nI_ge (b := 8) (by omega) (by omega)
    have hm : xN x / 256 ^ i % 256 < 256 := Nat.mod_lt _ (by decide)
    have e3 : r &&& 255 = lN (xN x / 256 ^ i % 256) := by rw [and255, hr]
    have l0 : (0 : Int64) = lN 0 := rfl
    rw [e135_8]
    rw [cls] at hres
    by_cases h0 : xN x / 256 ^ i % 256 = 0
    · have e4 : lg_cmp (lN (xN x / 256 ^ i % 256)) 0 = 0 := (lg_cmp_eq _ _).mpr (by rw [h0]; rfl)
      by_cases hi0 : i = 0
      · subst hi0
        have e1 : nI 0 = 0 := rfl
        have hr2 : res = -2 := by
          rw [← hres]
          cases good with
          | false => rfl
          | true =>
            rw [if_pos rfl]
            by_cases hz : xN x / 256 ^ 0 = 0
            · rw [if_pos hz, if_pos rfl]
            · rw [if_neg hz, if_pos (by omega)]
        rw [e1] at e0
        simp only [e135_0, e135_1, e135_2, e135_3, e135_5, e135_6, e135_9, e135_11, e135_14, e135_16, e135_19, e135_20, e135_21, e135_22, e135_25, e135_27, e135_30, e135_32, e135_35, e135_36, e135_39, e135_42, e135_45, e135_48, e135_49, e135_52, e135_53, e135_55, e135_57, e135_59, e135_60, e135_62, e135_65, e135_68, e135_69, e135_72, e135_74, e135_75, e135_76, e135_79, e135_81, e135_84, e135_86, e135_88, e135_91, e135_92, e135_93, e135_95, e135_98, e135_100, e135_101, e135_102, e135_103, e135_104, e135_106, e135_108, e135_111, e135_112, e135_115, e135_116, e135_119, e135_120, e135_122, e135_124, e135_125, e135_126, e135_129, e135_130, e135_131, e135_132, e135_133, e135_134, e135_137, e135_138, e135_139, e135_142, e135_145, e135_148, e135_149, e135_152, zpush, zopt_some, ↓reduceIte, List.getElem?_cons_succ, List.getElem?_cons_zero, beq_self_eq_true, true_and, and_true, Bool.true_and, Bool.and_true, Bool.false_and, Bool.and_false, nI_1, not_true_eq_false, not_false_eq_true, vp_narI, e0, e1, e3, e4]
        exact hneg hr2
      · have e1 : ¬ nI i = 0 := nI_ne0 (by omega) (by omega)
        by_cases hz : xN x / 256 ^ i = 0
        · have hr0 : r = 0 := xN_inj ((hr.trans hz).trans rfl)
          have e2 : lg_cmp r 0 = 0 := (lg_cmp_eq _ _).mpr hr0
          rw [if_pos hz, if_neg hi0] at hres
          cases good with
          | true =>
            simp only [e135_0, e135_1, e135_2, e135_3, e135_5, e135_6, e135_9, e135_11, e135_14, e135_16, e135_19, e135_20, e135_21, e135_22, e135_25, e135_27, e135_30, e135_32, e135_35, e135_36, e135_39, e135_42, e135_45, e135_48, e135_49, e135_52, e135_53, e135_55, e135_57, e135_59, e135_60, e135_62, e135_65, e135_68, e135_69, e135_72, e135_74, e135_75, e135_76, e135_79, e135_81, e135_84, e135_86, e135_88, e135_91, e135_92, e135_93, e135_95, e135_98, e135_100, e135_101, e135_102, e135_103, e135_104, e135_106, e135_108, e135_111, e135_112, e135_115, e135_116, e135_119, e135_120, e135_122, e135_124, e135_125, e135_126, e135_129, e135_130, e135_131, e135_132, e135_133, e135_134, e135_137, e135_138, e135_139, e135_142, e135_145, e135_148, e135_149, e135_152, zpush, zopt_some, ↓reduceIte, List.getElem?_cons_succ, List.getElem?_cons_zero, beq_self_eq_true, true_and, and_true, Bool.true_and, Bool.and_true, Bool.false_and, Bool.and_false, nI_1, not_true_eq_false, not_false_eq_true, vp_narI, e0, e1, e2, e3, e4, zb_t, (show ¬ (1 : Int32) = 0 by decide), not_false_eq_true, not_true_eq_false]
            exact hpos i r (by omega) (by omega) hres.symm
          | false =>
            simp only [e135_0, e135_1, e135_2, e135_3, e135_5, e135_6, e135_9, e135_11, e135_14, e135_16, e135_19, e135_20, e135_21, e135_22, e135_25, e135_27, e135_30, e135_32, e135_35, e135_36, e135_39, e135_42, e135_45, e135_48, e135_49, e135_52, e135_53, e135_55, e135_57, e135_59, e135_60, e135_62, e135_65, e135_68, e135_69, e135_72, e135_74, e135_75, e135_76, e135_79, e135_81, e135_84, e135_86, e135_88, e135_91, e135_92, e135_93, e135_95, e135_98, e135_100, e135_101, e135_102, e135_103, e135_104, e135_106, e135_108, e135_111, e135_112, e135_115, e135_116, e135_119, e135_120, e135_122, e135_124, e135_125, e135_126, e135_129, e135_130, e135_131, e135_132, e135_133, e135_134, e135_137, e135_138, e135_139, e135_142, e135_145, e135_148, e135_149, e135_152, zpush, zopt_some, ↓reduceIte, List.getElem?_cons_succ, List.getElem?_cons_zero, beq_self_eq_true, true_and, and_true, Bool.true_and, Bool.and_true, Bool.false_and, Bool.and_false, nI_1, not_true_eq_false, not_false_eq_true, vp_narI, e0, e1, e2, e3, e4, zb_f, not_true_eq_false]
            exact hneg hres.symm
        · have e2 : ¬ lg_cmp r 0 = 0 := fun h => hz (by rw [← hr, (lg_cmp_eq _ _).mp h]; rfl)
          have hr2 : res = -2 := by
            rw [← hres]
            cases good with
            | false => rfl
            | true => rw [if_pos rfl, if_neg hz, if_pos (by omega)]
          simp only [e135_0, e135_1, e135_2, e135_3, e135_5, e135_6, e135_9, e135_11, e135_14, e135_16, e135_19, e135_20, e135_21, e135_22, e135_25, e135_27, e135_30, e135_32, e135_35, e135_36, e135_39, e135_42, e135_45, e135_48, e135_49, e135_52, e135_53, e135_55, e135_57, e135_59, e135_60, e135_62, e135_65, e135_68, e135_69, e135_72, e135_74, e135_75, e135_76, e135_79, e135_81, e135_84, e135_86, e135_88, e135_91, e135_92, e135_93, e135_95, e135_98, e135_100, e135_101, e135_102, e135_103, e135_104, e135_106, e135_108, e135_111, e135_112, e135_115, e135_116, e135_119, e135_120, e135_122, e135_124, e135_125, e135_126, e135_129, e135_130, e135_131, e135_132, e135_133, e135_134, e135_137, e135_138, e135_139, e135_142, e135_145, e135_148, e135_149, e135_152, zpush, zopt_some, ↓reduceIte, List.getElem?_cons_succ, List.getElem?_cons_zero, beq_self_eq_true, true_and, and_true, Bool.true_and, Bool.and_true, Bool.false_and, Bool.and_false, nI_1, not_true_eq_false, not_false_eq_true, vp_narI, e0, e1, e2, e3, e4, not_false_eq_true]
          exact hneg hr2
    · have hz : ¬ xN x / 256 ^ i = 0 := fun e => h0 (by rw [e])
      have e4 : ¬ lg_cmp (lN (xN x / 256 ^ i % 256)) 0 = 0 := fun h => h0 (by
        have := (lg_cmp_eq _ _).mp h
        rw [l0] at this
        exact (pk_lEQ (by omega) (by decide)).mp this)
      have e5 : (decide ((33 : Int64) ≤ lN (xN x / 256 ^ i % 256)) && decide (lN (xN x / 256 ^ i % 256) ≤ 126)) = (decide (33 ≤ xN x / 256 ^ i % 256) && decide (xN x / 256 ^ i % 256 ≤ 126)) := by
        rw [Bool.eq_iff_iff]
        simp only [Bool.and_eq_true, decide_eq_true_eq]
        rw [l33, l126, pk_lLE (by decide) (by omega), pk_lLE (by omega) (by decide)]
      rw [if_neg hz] at hres
      have ih := fun good => ih (i + 1) (r.toUInt64 >>> ((8 : Int32).toInt64.toUInt64 &&& Int64.toUInt64 63)).toInt64 good (by omega) (by rw [shw8, hr, Nat.div_div_eq_div_mul, Nat.pow_succ])
      cases good with
      | true =>
        rw [if_pos rfl] at hres
        by_cases hb : 33 ≤ xN x / 256 ^ i % 256 ∧ xN x / 256 ^ i % 256 ≤ 126
        · rw [if_neg (by omega)] at hres
          have ih := ih true (by rw [if_pos rfl]; exact hres)
          simp only [e135_0, e135_1, e135_2, e135_3, e135_5, e135_6, e135_9, e135_11, e135_14, e135_16, e135_19, e135_20, e135_21, e135_22, e135_25, e135_27, e135_30, e135_32, e135_35, e135_36, e135_39, e135_42, e135_45, e135_48, e135_49, e135_52, e135_53, e135_55, e135_57, e135_59, e135_60, e135_65, e135_68, e135_69, e135_72, e135_74, e135_75, e135_76, e135_79, e135_81, e135_84, e135_86, e135_87, e135_88, e135_91, e135_92, e135_93, e135_95, e135_98, e135_100, e135_101, e135_102, e135_103, e135_104, e135_106, e135_108, e135_111, e135_112, e135_115, e135_116, e135_119, e135_120, e135_122, e135_124, e135_125, e135_126, e135_129, e135_130, e135_131, e135_132, e135_133, e135_134, e135_137, e135_138, e135_139, e135_142, e135_145, e135_148, e135_149, e135_152, e135_62 znl_3, zpush, zopt_some, ↓reduceIte, List.getElem?_cons_succ, List.getElem?_cons_zero, beq_self_eq_true, true_and, and_true, Bool.true_and, Bool.and_true, Bool.false_and, Bool.and_false, nI_1, not_true_eq_false, not_false_eq_true, vp_narI, c_M_in, e0, e3, e4, e5, hb.1, hb.2, decide_true, zb_t, (show ¬ (1 : Int32) = 0 by decide)]
          exact ih
        · rw [if_pos (by omega)] at hres
          have ih := ih false (by rw [if_neg (by decide)]; exact hres)
          have hbf : (decide (33 ≤ xN x / 256 ^ i % 256) && decide (xN x / 256 ^ i % 256 ≤ 126)) = false := by
            rw [← Bool.not_eq_true]; intro h; simp only [Bool.and_eq_true, decide_eq_true_eq] at h; exact hb h
          simp only [e135_0, e135_1, e135_2, e135_3, e135_5, e135_6, e135_9, e135_11, e135_14, e135_16, e135_19, e135_20, e135_21, e135_22, e135_25, e135_27, e135_30, e135_32, e135_35, e135_36, e135_39, e135_42, e135_45, e135_48, e135_49, e135_52, e135_53, e135_55, e135_57, e135_59, e135_60, e135_65, e135_68, e135_69, e135_72, e135_74, e135_75, e135_76, e135_79, e135_81, e135_84, e135_86, e135_87, e135_88, e135_91, e135_92, e135_93, e135_95, e135_98, e135_100, e135_101, e135_102, e135_103, e135_104, e135_106, e135_108, e135_111, e135_112, e135_115, e135_116, e135_119, e135_120, e135_122, e135_124, e135_125, e135_126, e135_129, e135_130, e135_131, e135_132, e135_133, e135_134, e135_137, e135_138, e135_139, e135_142, e135_145, e135_148, e135_149, e135_152, e135_62 znl_3, zpush, zopt_some, ↓reduceIte, List.getElem?_cons_succ, List.getElem?_cons_zero, beq_self_eq_true, true_and, and_true, Bool.true_and, Bool.and_true, Bool.false_and, Bool.and_false, nI_1, not_true_eq_false, not_false_eq_true, vp_narI, c_M_in, e0, e3, e4, e5, hbf, zb_t, zb_f, (show ¬ (1 : Int32) = 0 by decide)]
          exact ih
      | false =>
        rw [if_neg (by decide)] at hres
        have ih := ih false (by rw [if_neg (by decide)]; exact hres)
        simp only [e135_0, e135_1, e135_2, e135_3, e135_5, e135_6, e135_9, e135_11, e135_14, e135_16, e135_19, e135_20, e135_21, e135_22, e135_25, e135_27, e135_30, e135_32, e135_35, e135_36, e135_39, e135_42, e135_45, e135_48, e135_49, e135_52, e135_53, e135_55, e135_57, e135_59, e135_60, e135_65, e135_68, e135_69, e135_72, e135_74, e135_75, e135_76, e135_79, e135_81, e135_84, e135_86, e135_87, e135_88, e135_91, e135_92, e135_93, e135_95, e135_98, e135_100, e135_101, e135_102, e135_103, e135_104, e135_106, e135_108, e135_111, e135_112, e135_115, e135_116, e135_119, e135_120, e135_122, e135_124, e135_125, e135_126, e135_129, e135_130, e135_131, e135_132, e135_133, e135_134, e135_137, e135_138, e135_139, e135_142, e135_145, e135_148, e135_149, e135_152, e135_62 znl_3, zpush, zopt_some, ↓reduceIte, List.getElem?_cons_succ, List.getElem?_cons_zero, beq_self_eq_true, true_and, and_true, Bool.true_and, Bool.and_true, Bool.false_and, Bool.and_false, nI_1, not_true_eq_false, not_false_eq_true, vp_narI, e0, e3, e4, zb_f]
        exact ih
theorem l_M_put2 {x r : Int64} {n l : Nat} {f : Nat → Int32} (hn : n ≤ 8) (hl : l + n ≤ 60) (h0 : List zC) (M0 : Nat → Nat → Int32) (hQ : ∀ h' M', zMv [14, 15] h0 M0 h' M' → M' 15 0 = nI (l + n) → M' 14 = apF x l n n f → Q (some (.int (nI (l + n)))) (h', z)) :
    ∀ (j i : Nat) (h : List zC) (M : Nat → Nat → Int32), i + j = n → zMv [14, 15] h0 M0 h M → M 15 0 = nI (l + i) → M 14 = apM x l n i f → Ev 135 106 [.ref 108, .long x, zU, .int (nI n), .int 1, .long r, zU, .int (nI (n - i) - 1)] [] (h, z) Q := by
  intro j
  induction j with
  | zero =>
    intro i h M hi V H1 H2
    have hi : i = n := by omega
    subst hi
    obtain ⟨o0, fd0, fd1, fd2, fd3, fd4, fd5, fd6, fd7, fd8, fd9, fd10, fd11, fd12, fd13, fd14, fd15, fd16, fd17, fd18, fd19, fd20, a0, a1, a2, a4, a5, a6, a7, a9, a10, a11, a14⟩ := V.mm.q
    have e1 : nI (i - i) - 1 < 0 := by rw [Nat.sub_self]; decide
    rw [e135_106]
    simp only [e135_0, e135_1, e135_2, e135_3, e135_5, e135_6, e135_8, e135_9, e135_11, e135_14, e135_16, e135_19, e135_20, e135_21, e135_22, e135_25, e135_27, e135_30, e135_32, e135_35, e135_36, e135_39, e135_42, e135_45, e135_48, e135_49, e135_52, e135_53, e135_55, e135_57, e135_59, e135_60, e135_62, e135_65, e135_68, e135_69, e135_72, e135_74, e135_75, e135_76, e135_79, e135_81, e135_84, e135_86, e135_87, e135_88, e135_91, e135_92, e135_93, e135_95, e135_98, e135_100, e135_101, e135_102, e135_103, e135_104, e135_108, e135_111, e135_112, e135_115, e135_116, e135_119, e135_120, e135_122, e135_124, e135_125, e135_126, e135_129, e135_130, e135_131, e135_132, e135_133, e135_134, e135_137, e135_138, e135_139, e135_142, e135_145, e135_148, e135_149, e135_152, zpush, zopt_some, ↓reduceIte, List.getElem?_cons_succ, List.getElem?_cons_zero, beq_self_eq_true, true_and, and_true, Bool.true_and, Bool.and_true, Bool.false_and, Bool.and_false, nI_1, not_true_eq_false, not_false_eq_true, vp_narI, o0, ↓fd0, ↓fd1, ↓fd2, ↓fd3, ↓fd4, ↓fd5, ↓fd6, ↓fd7, ↓fd8, ↓fd9, ↓fd10, ↓fd11, ↓fd12, ↓fd13, ↓fd14, ↓fd15, ↓fd16, ↓fd17, ↓fd18, ↓fd19, ↓fd20, e1, H1]
    exact hQ h M V H1 (by rw [H2, apM_n])
  | succ j ih =>
    intro i h M hi V H1 H2
    obtain ⟨o0, fd0, fd1, fd2, fd3, fd4, fd5, fd6, fd7, fd8, fd9, fd10, fd11, fd12, fd13, fd14, fd15, fd16, fd17, fd18, fd19, fd20, a0, a1, a2, a4, a5, a6, a7, a9, a10, a11, a14⟩ := V.mm.q
    have e0 : nI (n - i) - 1 = nI (n - 1 - i) := by rw [show n - i = (n - 1 - i) + 1 by omega, nI_pred]
    have e1 : ¬ nI (n - 1 - i) < 0 := nI_pos (by omega)
    have e4 : ((8 : Int32) * nI (n - 1 - i)) = nI (8 * (n - 1 - i)) := by rw [show (8 : Int32) = nI 8 from rfl, pk_mul]
    have e5 : (x.toUInt64 >>> ((nI (8 * (n - 1 - i))).toInt64.toUInt64 &&& Int64.toUInt64 63)).toInt64 &&& 255 = lN (xN x / 256 ^ (n - 1 - i) % 256) := shw_and x (by omega)
    rw [e0, e135_106]
    simp only [e135_0, e135_1, e135_2, e135_3, e135_5, e135_6, e135_8, e135_9, e135_11, e135_14, e135_16, e135_19, e135_20, e135_21, e135_22, e135_25, e135_27, e135_30, e135_32, e135_35, e135_36, e135_39, e135_42, e135_45, e135_48, e135_49, e135_52, e135_53, e135_55, e135_57, e135_59, e135_60, e135_62, e135_65, e135_68, e135_69, e135_72, e135_74, e135_75, e135_76, e135_79, e135_81, e135_84, e135_86, e135_87, e135_88, e135_91, e135_92, e135_93, e135_95, e135_98, e135_100, e135_101, e135_102, e135_103, e135_104, e135_108, e135_111, e135_112, e135_115, e135_116, e135_119, e135_120, e135_122, e135_124, e135_125, e135_126, e135_129, e135_130, e135_132, e135_133, e135_134, e135_137, e135_138, e135_139, e135_142, e135_145, e135_148, e135_149, e135_152, zpush, zopt_some, ↓reduceIte, List.getElem?_cons_succ, List.getElem?_cons_zero, beq_self_eq_true, true_and, and_true, Bool.true_and, Bool.and_true, Bool.false_and, Bool.and_false, nI_1, not_true_eq_false, not_false_eq_true, vp_narI, o0, ↓fd0, ↓fd1, ↓fd2, ↓fd3, ↓fd4, ↓fd5, ↓fd6, ↓fd7, ↓fd8, ↓fd9, ↓fd10, ↓fd11, ↓fd12, ↓fd13, ↓fd14, ↓fd15, ↓fd16, ↓fd17, ↓fd18, ↓fd19, ↓fd20, e1, H1, e4, e5, lN_i]
    rw [e135_131]
    refine V.mm.w14 rfl (by omega) (fun h2 M2 V2 E2 => ?_)
    obtain ⟨o0, fd0, fd1, fd2, fd3, fd4, fd5, fd6, fd7, fd8, fd9, fd10, fd11, fd12, fd13, fd14, fd15, fd16, fd17, fd18, fd19, fd20, a0, a1, a2, a4, a5, a6, a7, a9, a10, a11, a14⟩ := V2.mm.q
    have H1' : M2 15 0 = nI (l + i) := (congrFun (V2.k 15 rfl) 0).trans H1
    simp only [e135_0, e135_1, e135_2, e135_3, e135_5, e135_6, e135_8, e135_9, e135_11, e135_14, e135_16, e135_19, e135_20, e135_21, e135_22, e135_25, e135_27, e135_30, e135_32, e135_35, e135_36, e135_39, e135_42, e135_45, e135_48, e135_49, e135_52, e135_53, e135_55, e135_57, e135_59, e135_60, e135_62, e135_65, e135_68, e135_69, e135_72, e135_74, e135_75, e135_76, e135_79, e135_81, e135_84, e135_86, e135_87, e135_88, e135_91, e135_92, e135_93, e135_95, e135_98, e135_100, e135_101, e135_102, e135_103, e135_104, e135_108, e135_111, e135_112, e135_115, e135_116, e135_119, e135_120, e135_122, e135_124, e135_125, e135_126, e135_129, e135_130, e135_132, e135_133, e135_134, e135_137, e135_138, e135_139, e135_145, e135_148, e135_149, e135_152, e135_142 znl_7, zpush, zopt_some, ↓reduceIte, List.getElem?_cons_succ, List.getElem?_cons_zero, beq_self_eq_true, true_and, and_true, Bool.true_and, Bool.and_true, Bool.false_and, Bool.and_false, nI_1, not_true_eq_false, not_false_eq_true, vp_narI, o0, ↓fd0, ↓fd1, ↓fd2, ↓fd3, ↓fd4, ↓fd5, ↓fd6, ↓fd7, ↓fd8, ↓fd9, ↓fd10, ↓fd11, ↓fd12, ↓fd13, ↓fd14, ↓fd15, ↓fd16, ↓fd17, ↓fd18, ↓fd19, ↓fd20, H1', dec1]
    refine V2.mm.p15 (fun h3 M3 V3 E3 => ?_)
    have e6 : nI (n - 1 - i) - 1 = nI (n - (i + 1)) - 1 := by rw [show n - 1 - i = n - (i + 1) by omega]
    rw [e6]
    exact ih (i + 1) h3 M3 (by omega) ((V.to V2 rfl).to V3 rfl) E3 (by rw [V3.k 14 rfl, E2, H2, apM_s x f (by omega)])
theorem c_M_put {x : Int64} {l : Nat} (hM : zMM h M) (hl : M 15 0 = nI l) (h60 : l ≤ 60) (hQ : ∀ h' M', zMv [14, 15] h M h' M' → M' 15 0 = nI (ptL x l) → M' 14 = ptF x l (M 14) → Q (some (.int (ptA x l))) (h', z)) :
    Ev 135 0 [.ref 108, .long x, zU, zU, zU, zU, zU, zU] [] (h, z) Q := by
  obtain ⟨o0, fd0, fd1, fd2, fd3, fd4, fd5, fd6, fd7, fd8, fd9, fd10, fd11, fd12, fd13, fd14, fd15, fd16, fd17, fd18, fd19, fd20, a0, a1, a2, a4, a5, a6, a7, a9, a10, a11, a14⟩ := hM.q
  unfold ptA ptL ptF at hQ
  have L := l_M_put1 (x := x) (res := cls (xN x) 8 0) (X := (h, z)) (Q := Q) (fun hr => by
      have hc : cls (xN x) 8 0 < 0 := by rw [hr]; decide
      simp only [hc, true_or, ↓reduceIte] at hQ
      exact hQ h M hM.rf hl rfl) (fun n r h1 h8 hr => by
      have hc : ¬ cls (xN x) 8 0 < 0 := by rw [hr]; exact nI_pos (by omega)
      have hn : clN x = n := by unfold clN; rw [hr]; exact nI_clamp (by omega)
      simp only [hc, false_or, ↓reduceIte, hn] at hQ
      by_cases h6 : 60 < l + n
      · have e2 : ¬ nI (l + n) ≤ 60 := nI_ge (a := 60) h6 (by omega)
        simp only [h6, ↓reduceIte] at hQ
        simp only [e135_0, e135_1, e135_2, e135_3, e135_5, e135_6, e135_8, e135_9, e135_11, e135_14, e135_16, e135_19, e135_20, e135_21, e135_22, e135_25, e135_27, e135_30, e135_32, e135_35, e135_36, e135_39, e135_42, e135_45, e135_48, e135_49, e135_52, e135_53, e135_55, e135_57, e135_59, e135_60, e135_62, e135_65, e135_68, e135_69, e135_72, e135_74, e135_75, e135_76, e135_79, e135_81, e135_84, e135_86, e135_87, e135_88, e135_91, e135_92, e135_93, e135_95, e135_98, e135_100, e135_101, e135_102, e135_103, e135_104, e135_108, e135_111, e135_112, e135_115, e135_116, e135_119, e135_120, e135_122, e135_124, e135_125, e135_126, e135_129, e135_130, e135_131, e135_132, e135_133, e135_134, e135_137, e135_138, e135_139, e135_142, e135_145, e135_148, e135_149, e135_152, zpush, zopt_some, ↓reduceIte, List.getElem?_cons_succ, List.getElem?_cons_zero, beq_self_eq_true, true_and, and_true, Bool.true_and, Bool.and_true, Bool.false_and, Bool.and_false, nI_1, not_true_eq_false, not_false_eq_true, vp_narI, o0, ↓fd0, ↓fd1, ↓fd2, ↓fd3, ↓fd4, ↓fd5, ↓fd6, ↓fd7, ↓fd8, ↓fd9, ↓fd10, ↓fd11, ↓fd12, ↓fd13, ↓fd14, ↓fd15, ↓fd16, ↓fd17, ↓fd18, ↓fd19, ↓fd20, hl, nI_add, e2]
        exact hQ h M hM.rf hl rfl
      · have e2 : nI (l + n) ≤ 60 := nI_le (b := 60) (by omega) (by decide)
        simp only [h6, ↓reduceIte] at hQ
        simp only [e135_0, e135_1, e135_2, e135_3, e135_5, e135_6, e135_8, e135_9, e135_11, e135_14, e135_16, e135_19, e135_20, e135_21, e135_22, e135_25, e135_27, e135_30, e135_32, e135_35, e135_36, e135_39, e135_42, e135_45, e135_48, e135_49, e135_52, e135_53, e135_55, e135_57, e135_59, e135_60, e135_62, e135_65, e135_68, e135_69, e135_72, e135_74, e135_75, e135_76, e135_79, e135_81, e135_84, e135_86, e135_87, e135_88, e135_91, e135_92, e135_93, e135_95, e135_98, e135_100, e135_101, e135_102, e135_103, e135_108, e135_111, e135_112, e135_115, e135_116, e135_119, e135_120, e135_122, e135_124, e135_125, e135_126, e135_129, e135_130, e135_131, e135_132, e135_133, e135_134, e135_137, e135_138, e135_139, e135_142, e135_145, e135_148, e135_149, e135_152, e135_104 znl_7, zpush, zopt_some, ↓reduceIte, List.getElem?_cons_succ, List.getElem?_cons_zero, beq_self_eq_true, true_and, and_true, Bool.true_and, Bool.and_true, Bool.false_and, Bool.and_false, nI_1, not_true_eq_false, not_false_eq_true, vp_narI, o0, ↓fd0, ↓fd1, ↓fd2, ↓fd3, ↓fd4, ↓fd5, ↓fd6, ↓fd7, ↓fd8, ↓fd9, ↓fd10, ↓fd11, ↓fd12, ↓fd13, ↓fd14, ↓fd15, ↓fd16, ↓fd17, ↓fd18, ↓fd19, ↓fd20, hl, nI_add, e2]
        have := l_M_put2 (z := z) (Q := Q) (x := x) (r := r) (f := M 14) h8 (by omega) h M hQ n 0 h M (by omega) hM.rf hl (by rw [apM_0])
        rw [Nat.sub_zero] at this
        exact this) 8 0 x true (by omega) (by rw [Nat.pow_zero, Nat.div_one]) (by rw [if_pos rfl])
  simp only [e135_0, e135_2, e135_3, e135_5, e135_6, e135_9, e135_11, e135_14, e135_16, e135_19, e135_20, e135_21, e135_22, e135_25, e135_27, e135_30, e135_32, e135_35, e135_36, e135_39, e135_42, e135_45, e135_48, e135_49, e135_52, e135_53, e135_55, e135_57, e135_59, e135_60, e135_62, e135_65, e135_68, e135_69, e135_72, e135_74, e135_75, e135_76, e135_79, e135_81, e135_84, e135_86, e135_87, e135_88, e135_91, e135_92, e135_93, e135_95, e135_98, e135_100, e135_101, e135_102, e135_103, e135_104, e135_106, e135_108, e135_111, e135_112, e135_115, e135_116, e135_119, e135_120, e135_122, e135_124, e135_125, e135_126, e135_129, e135_130, e135_131, e135_132, e135_133, e135_134, e135_137, e135_138, e135_139, e135_142, e135_145, e135_148, e135_149, e135_152, e135_1 znl_3, zpush, zopt_some, ↓reduceIte, List.getElem?_cons_succ, List.getElem?_cons_zero, beq_self_eq_true, true_and, and_true, Bool.true_and, Bool.and_true, Bool.false_and, Bool.and_false, nI_1, not_true_eq_false, not_false_eq_true, vp_narI]
  exact L
theorem c_M_wipe {l : Nat} (hM : zMM h M) (hl : M 15 0 = nI l) (hQ : ∀ h' M', zMv [15] h M h' M' → M' 15 0 = nI 0 → Q (some (.int (nI l))) (h', z)) : Ev 136 0 [.ref 108, zU] [] (h, z) Q := by
  obtain ⟨o0, fd0, fd1, fd2, fd3, fd4, fd5, fd6, fd7, fd8, fd9, fd10, fd11, fd12, fd13, fd14, fd15, fd16, fd17, fd18, fd19, fd20, a0, a1, a2, a4, a5, a6, a7, a9, a10, a11, a14⟩ := hM.q
  simp only [e136_0, e136_1, e136_4, e136_5, e136_6, e136_7, e136_10, e136_11, zpush, zopt_some, ↓reduceIte, List.getElem?_cons_succ, List.getElem?_cons_zero, beq_self_eq_true, true_and, and_true, Bool.true_and, Bool.and_true, Bool.false_and, Bool.and_false, nI_1, not_true_eq_false, not_false_eq_true, vp_narI, o0, ↓fd0, ↓fd1, ↓fd2, ↓fd3, ↓fd4, ↓fd5, ↓fd6, ↓fd7, ↓fd8, ↓fd9, ↓fd10, ↓fd11, ↓fd12, ↓fd13, ↓fd14, ↓fd15, ↓fd16, ↓fd17, ↓fd18, ↓fd19, ↓fd20, hl]
  exact hM.p15 (fun h2 M2 V2 E2 => hQ h2 M2 V2 E2)
end ZC
end
