/-! the first fault of a text -/
section
set_option maxRecDepth 100000
def flt (f : Nat → Int32) (l : Nat) : Nat → Nat → Int32
  | 0, p => nI p
  | k + 1, p => if (rdO f l p).1 = true then (if l ≤ (rdO f l p).2.1 then -6 else if f (rdO f l p).2.1 = 59 then flt f l k ((rdO f l p).2.1 + 1) else nI (rdO f l p).2.1) else nI (rdO f l p).2.1
theorem rd2_le {f : Nat → Int32} {l q : Nat} {c : Int32} (h : q ≤ l) : q ≤ (rd2 f l c q).2.1 ∧ (rd2 f l c q).2.1 ≤ l := by
  unfold rd2
  split
  · split
    next hs =>
      have h1 := (skB_lt hs).1
      have := rdA_le (f := f) (l := l) (p := q + 1) (by omega)
      exact ⟨by show q ≤ rdA f l (q + 1); omega, this.2⟩
    next => exact ⟨Nat.le_refl _, h⟩
  · split
    · split
      next hs =>
        have h1 := (skB_lt hs).1
        split
        next hs2 =>
          have h2 := (skB_lt hs2).1
          exact ⟨by show q ≤ q + 1 + 1; omega, by show q + 1 + 1 ≤ l; omega⟩
        next =>
          have := rdA_le (f := f) (l := l) (p := q + 1) (by omega)
          exact ⟨by show q ≤ rdA f l (q + 1); omega, this.2⟩
      next => exact ⟨Nat.le_refl _, h⟩
    · exact ⟨Nat.le_refl _, h⟩
theorem rdO_le {f : Nat → Int32} {l p : Nat} (h : p ≤ l) : p ≤ (rdO f l p).2.1 ∧ (rdO f l p).2.1 ≤ l ∧ ((rdO f l p).1 = true → p < (rdO f l p).2.1) := by
  unfold rdO
  split
  next hc =>
    have h1 := rdA_le (f := f) (l := l) (p := p + 1) (by omega)
    split
    next => exact ⟨by show p ≤ rdA f l (p + 1); omega, h1.2, fun e => by cases e⟩
    next =>
      have h2 := rd2_le (f := f) (c := f p) h1.2
      exact ⟨by omega, h2.2, fun _ => by omega⟩
  next => exact ⟨Nat.le_refl _, h, fun e => by cases e⟩
section ZC
variable {h : List zC} {z : Nat × (Nat × (Nat → Int32))} {Q : Option Value → zX → Prop} {l : Nat} {f : Nat → Int32}
theorem l_P_firstFault (hl : l ≤ 60) (hc : ∀ i, i < l → zfits .char (.int (f i)) = true) (v : Int32) (hQ : ∀ (h' : List zC) (p : Nat) (kd fi se : Int32), zFr (fun j => j = 80) h h' → zPx h' l p kd fi se f → p ≤ l → Q (some (.int v)) (h', z)) :
    ∀ (j i p : Nat) (kd fi se : Int32) (h' : List zC), i + j = 60 → p ≤ l → zFr (fun j => j = 80) h h' → zPx h' l p kd fi se f → flt f l j p = v → Ev 14 7 [.ref 80, .int (nI i)] [] (h', z) Q := by
  intro j
  induction j with
  | zero =>
    intro i p kd fi se h' hi hp hF hP hv
    have e0 : (60 : Int32) ≤ nI i := by rw [show i = 60 by omega]; decide
    have x0 := hP.1
    have hv : nI p = v := hv
    rw [e14_7]
    simp only [e14_0, e14_1, e14_2, e14_5, e14_6, e14_8, e14_10, e14_13, e14_14, e14_17, e14_20, e14_21, e14_24, e14_25, e14_26, e14_29, e14_30, e14_33, e14_36, e14_38, e14_39, e14_40, e14_42, e14_45, e14_48, e14_49, e14_52, e14_53, e14_56, e14_59, e14_60, e14_63, zgF, zgA, zgR, zisO, zpush, zopt_some, ↓reduceIte, List.getElem?_cons_succ, List.getElem?_cons_zero, beq_self_eq_true, true_and, and_true, Bool.true_and, Bool.and_true, Bool.false_and, Bool.and_false, nI_1, not_true_eq_false, not_false_eq_true, vp_narI, e0, x0, hv]
    exact hQ h' p kd fi se hF hP hp
  | succ j ih =>
    intro i p kd fi se h' hi hp hF hP hv
    have e0 : ¬ (60 : Int32) ≤ nI i := nI_ge (b := 60) (by omega) (by omega)
    have x0 := hP.1
    obtain ⟨r1, r2, -⟩ := rdO_le (f := f) hp
    rw [flt] at hv
    rw [e14_7]
    simp only [e14_0, e14_1, e14_2, e14_5, e14_6, e14_8, e14_10, e14_13, e14_14, e14_20, e14_21, e14_24, e14_25, e14_26, e14_29, e14_30, e14_33, e14_36, e14_38, e14_39, e14_40, e14_42, e14_45, e14_48, e14_49, e14_52, e14_53, e14_56, e14_59, e14_60, e14_63, zgF, zgA, zgR, zisO, zpush, zopt_some, ↓reduceIte, List.getElem?_cons_succ, List.getElem?_cons_zero, beq_self_eq_true, true_and, and_true, Bool.true_and, Bool.and_true, Bool.false_and, Bool.and_false, nI_1, not_true_eq_false, not_false_eq_true, vp_narI, e0, x0]
    refine c_P_readOrder hl hp hc hP (fun h1 kd1 fi1 se1 F1 P1 _ => ?_)
    have x1 := P1.1
    by_cases h1' : (rdO f l p).1 = true
    · rw [if_pos h1'] at hv
      by_cases h2 : l ≤ (rdO f l p).2.1
      · rw [if_pos h2] at hv
        have a1 : ¬ nI (rdO f l p).2.1 < nI l := nI_nlt h2 (by omega)
        simp only [e14_0, e14_1, e14_2, e14_5, e14_6, e14_8, e14_10, e14_13, e14_14, e14_17, e14_20, e14_21, e14_24, e14_25, e14_26, e14_29, e14_30, e14_33, e14_36, e14_38, e14_39, e14_40, e14_42, e14_45, e14_48, e14_49, e14_52, e14_53, e14_56, e14_59, e14_60, e14_63, zgF, zgA, zgR, zisO, zpush, zopt_some, ↓reduceIte, List.getElem?_cons_succ, List.getElem?_cons_zero, beq_self_eq_true, true_and, and_true, Bool.true_and, Bool.and_true, Bool.false_and, Bool.and_false, nI_1, not_true_eq_false, not_false_eq_true, vp_narI, h1', zb_t, (show ¬ (1 : Int32) = 0 by decide), x1, a1, hv]
        exact hQ h1 _ kd1 fi1 se1 (hF.tr F1) P1 r2
      · rw [if_neg h2] at hv
        have a1 : nI (rdO f l p).2.1 < nI l := nI_lt (by omega) (by omega)
        simp only [e14_0, e14_1, e14_2, e14_5, e14_6, e14_8, e14_10, e14_13, e14_14, e14_17, e14_20, e14_21, e14_24, e14_25, e14_26, e14_29, e14_30, e14_33, e14_36, e14_38, e14_39, e14_40, e14_42, e14_48, e14_49, e14_52, e14_53, e14_56, e14_59, e14_60, e14_63, zgF, zgA, zgR, zisO, zpush, zopt_some, ↓reduceIte, List.getElem?_cons_succ, List.getElem?_cons_zero, beq_self_eq_true, true_and, and_true, Bool.true_and, Bool.and_true, Bool.false_and, Bool.and_false, nI_1, not_true_eq_false, not_false_eq_true, vp_narI, h1', zb_t, (show ¬ (1 : Int32) = 0 by decide), x1, a1]
        refine c_P_skip hl r2 P1 (fun h2' F2 P2 => ?_)
        have x2 := P2.1
        by_cases h3 : f (rdO f l p).2.1 = 59
        · rw [if_pos h3] at hv
          have hs : skB f l (rdO f l p).2.1 59 = true := by unfold skB; simp [h3]; omega
          rw [show skA f l (rdO f l p).2.1 59 = (rdO f l p).2.1 + 1 from if_pos hs] at P2
          simp only [e14_0, e14_1, e14_2, e14_5, e14_6, e14_8, e14_10, e14_13, e14_14, e14_17, e14_20, e14_21, e14_24, e14_25, e14_26, e14_29, e14_30, e14_33, e14_36, e14_38, e14_39, e14_40, e14_42, e14_45, e14_48, e14_49, e14_52, e14_53, e14_56, e14_59, e14_60, e14_63, zgF, zgA, zgR, zisO, zpush, zopt_some, ↓reduceIte, List.getElem?_cons_succ, List.getElem?_cons_zero, beq_self_eq_true, true_and, and_true, Bool.true_and, Bool.and_true, Bool.false_and, Bool.and_false, nI_1, not_true_eq_false, not_false_eq_true, vp_narI, hs, zb_t, (show ¬ (1 : Int32) = 0 by decide)]
          exact ih (i + 1) _ kd1 fi1 se1 h2' (by omega) (by omega) ((hF.tr F1).tr F2) P2 hv
        · rw [if_neg h3] at hv
          have hs : skB f l (rdO f l p).2.1 59 = false := by unfold skB; simp [h3]
          rw [show skA f l (rdO f l p).2.1 59 = (rdO f l p).2.1 from if_neg (by rw [hs]; decide)] at P2 x2
          simp only [e14_0, e14_1, e14_2, e14_5, e14_6, e14_8, e14_10, e14_13, e14_14, e14_17, e14_20, e14_21, e14_24, e14_25, e14_26, e14_29, e14_30, e14_33, e14_36, e14_38, e14_39, e14_40, e14_42, e14_45, e14_48, e14_49, e14_52, e14_53, e14_56, e14_59, e14_60, e14_63, zgF, zgA, zgR, zisO, zpush, zopt_some, ↓reduceIte, List.getElem?_cons_succ, List.getElem?_cons_zero, beq_self_eq_true, true_and, and_true, Bool.true_and, Bool.and_true, Bool.false_and, Bool.and_false, nI_1, not_true_eq_false, not_false_eq_true, vp_narI, hs, zb_f, x2, hv]
          exact hQ h2' _ kd1 fi1 se1 ((hF.tr F1).tr F2) P2 r2
    · rw [if_neg h1'] at hv
      rw [Bool.not_eq_true] at h1'
      simp only [e14_0, e14_1, e14_2, e14_5, e14_6, e14_8, e14_10, e14_13, e14_14, e14_17, e14_20, e14_21, e14_24, e14_25, e14_26, e14_29, e14_30, e14_33, e14_36, e14_38, e14_39, e14_40, e14_42, e14_45, e14_48, e14_49, e14_52, e14_53, e14_56, e14_59, e14_60, e14_63, zgF, zgA, zgR, zisO, zpush, zopt_some, ↓reduceIte, List.getElem?_cons_succ, List.getElem?_cons_zero, beq_self_eq_true, true_and, and_true, Bool.true_and, Bool.and_true, Bool.false_and, Bool.and_false, nI_1, not_true_eq_false, not_false_eq_true, vp_narI, h1', zb_f, x1, hv]
      exact hQ h1 _ kd1 fi1 se1 (hF.tr F1) P1 r2
theorem c_P_firstFault {p : Nat} {kd fi se : Int32} (hl : l ≤ 60) (hc : ∀ i, i < l → zfits .char (.int (f i)) = true) (hP : zPx h l p kd fi se f) (hQ : ∀ (h' : List zC) (p : Nat) (kd fi se : Int32), zFr (fun j => j = 80) h h' → zPx h' l p kd fi se f → p ≤ l → Q (some (.int (flt f l 60 0))) (h', z)) :
    Ev 14 0 [.ref 80, zU] [] (h, z) Q := by
  have x0 := hP.1
  have P2 := hP.at 0
  simp only [e14_0, e14_1, e14_2, e14_5, e14_6, e14_8, e14_10, e14_13, e14_14, e14_17, e14_20, e14_21, e14_24, e14_25, e14_26, e14_29, e14_30, e14_33, e14_36, e14_38, e14_39, e14_40, e14_42, e14_45, e14_48, e14_49, e14_52, e14_53, e14_56, e14_59, e14_60, e14_63, zgF, zgA, zgR, zisO, zpush, zopt_some, ↓reduceIte, List.getElem?_cons_succ, List.getElem?_cons_zero, beq_self_eq_true, true_and, and_true, Bool.true_and, Bool.and_true, Bool.false_and, Bool.and_false, nI_1, not_true_eq_false, not_false_eq_true, vp_narI, x0, zpF, List.length_cons, List.length_nil, Nat.reduceAdd, Nat.reduceLT, and_self, List.set_cons_succ, List.set_cons_zero]
  exact l_P_firstFault (h := h) hl hc (flt f l 60 0) hQ 60 0 0 kd fi se _ (by omega) (by omega) (zFr.set rfl) P2 rfl
end ZC
end
