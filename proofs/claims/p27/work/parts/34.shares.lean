/-! fair shares -/
section
set_option maxRecDepth 100000
def wsN (a : Nat → Int32) : Nat → Nat
  | 0 => 0
  | i + 1 => wsN a i + (if tp a i = true then gN a (17 + i) else 0)
theorem wsum_N {a : Nat → Int32} (hg : zG a) : ∀ i, i ≤ gN a 2 → wsum a i = nI (wsN a i) ∧ wsN a i ≤ 16 * i
  | 0, _ => ⟨rfl, Nat.le_refl _⟩
  | i + 1, hi => by
    obtain ⟨h1, h2⟩ := wsum_N hg i (by omega)
    have h3 := (hg.2.2.2.2.2.1 i (by omega)).2.1
    unfold wsum wsN
    by_cases h : tp a i = true
    · rw [if_pos h, if_pos h, h1, h3.1, nI_add]
      refine ⟨?_, by omega⟩
      congr 1
    · rw [if_neg h, if_neg h, h1, Int32.add_zero]
      exact ⟨rfl, by omega⟩
theorem wsN_le {a : Nat → Int32} {s : Nat} (ht : tp a s = true) : ∀ i, s < i → gN a (17 + s) ≤ wsN a i
  | 0, h => absurd h (by omega)
  | i + 1, h => by
    unfold wsN
    by_cases e : s = i
    · subst e; rw [if_pos ht]; omega
    · have := wsN_le ht i (by omega); omega
theorem wsum_pos {a : Nat → Int32} {s : Nat} (hg : zG a) (hs : s < gN a 2) (ht : tp a s = true) : 0 < wsum a (gN a 2) := by
  obtain ⟨h1, h2⟩ := wsum_N hg (gN a 2) (Nat.le_refl _)
  have h3 := wsN_le ht (gN a 2) hs
  have b2 := hg.2.2.1.2
  have h4 := (hg.2.2.2.2.2.1 s hs).2.1
  have h5 : 0 < gN a (17 + s) := by
    rcases Nat.eq_zero_or_pos (gN a (17 + s)) with h | h
    · rw [h] at h4
      unfold tp at ht
      rw [h4.1] at ht
      exact absurd ht (by simp; intro _; decide)
    · exact h
  rw [h1]
  exact nI_lt (a := 0) (by omega) (by omega)
def fsh (a : Nat → Int32) (s : Nat) : Int32 := if tp a s = true then 1000 * tot a (gN a 3) * a (17 + s) / wsum a (gN a 2) else 0
def abv (a : Nat → Int32) (s : Nat) : Int32 := 1000 * ldF a (gN a 3) s - fsh a s
def absI (x : Int32) : Int32 := if 0 ≤ x then x else 0 - x
def unv (a : Nat → Int32) : Nat → Int32
  | 0 => 0
  | k + 1 => unv a k + (if tp a k = true then absI (abv a k) else 0)
def mst (a : Nat → Int32) : Nat → Option Nat
  | 0 => none
  | k + 1 => if tp a k = true then (match mst a k with
    | none => some k
    | some b => if abv a b < abv a k then some k else some b) else mst a k
def encA (a : Nat → Int32) : Option Nat → Int32
  | none => 0
  | some b => abv a b
theorem mst_lt (a : Nat → Int32) : ∀ k b, mst a k = some b → b < k
  | 0, b, h => by cases h
  | k + 1, b, h => by
    unfold mst at h
    split at h
    next =>
      cases hm : mst a k with
      | none => rw [hm] at h; simp at h; omega
      | some c =>
        rw [hm] at h
        have := mst_lt a k c hm
        simp at h
        split at h
        next => simp at h; omega
        next => simp at h; omega
    next => have := mst_lt a k b h; omega
section ZC
variable {h : List zC} {z : Nat × (Nat × (Nat → Int32))} {a : Nat → Int32} {Q : Option Value → zX → Prop} {P T : Nat}
theorem c_D_fairShare {s y : Nat} {cf sf lf : Nat → Int32} {t : Int32} (hg : zG a) (hs : s < gN a 2) (hD : zDo h P T) (hS : zSt h 1 a) (hL : zLo h y cf sf lf t) (ht : t = tot a (gN a 3)) : Ev 59 0 [.ref 0, .int (nI s), .ref y, .int (wsum a (gN a 2))] [] (h, z) Q = Q (some (.int (fsh a s))) (h, z) := by
  have hD' : h[0]? = some (zob 5 [.ref 1, .ref 10, .ref 75, .ref 76, .ref 77, .ref 80, .ref P, .ref T]) := hD
  have c1 := fun (s : Int32) (Q : Option Value → zX → Prop) => c_S_takesPart (s := s) (z := z) (Q := Q) hS hg
  have b2 := hg.2.2.1.2
  have e1 : zinb (nI s) (gN a 2) = true := zinb_nI hs (by omega)
  have e2 : (nI s).toNatClampNeg = s := nI_clamp (by omega)
  have e3 : zinb (nI s) 12 = true := zinb_nI (by omega) (by decide)
  obtain ⟨s0, -, ⟨fw, hw, ew⟩, -⟩ := id hS
  unfold fsh
  by_cases h1 : tp a s = true
  · have h2 := wsum_pos hg hs h1
    have h3 : ¬ wsum a (gN a 2) = 0 := fun e => by rw [e] at h2; exact absurd h2 (by decide)
    simp only [e59_0, e59_1, e59_4, e59_5, e59_8, e59_11, e59_12, e59_15, e59_16, e59_17, e59_20, e59_21, e59_24, e59_25, e59_26, e59_29, e59_32, e59_33, e59_34, e59_35, e59_36, e59_37, zgF, zgA, zgR, zisO, zpush, zopt_some, ↓reduceIte, List.getElem?_cons_succ, List.getElem?_cons_zero, beq_self_eq_true, true_and, and_true, Bool.true_and, Bool.and_true, Bool.false_and, Bool.and_false, nI_1, not_true_eq_false, not_false_eq_true, vp_narI, hD', s0, c1, e1, e2, e3, h1, zb_t, (show ¬ (1 : Int32) = 0 by decide), h2, h3, hL.1, hw, ew s hs, ht]
  · have h1' : tp a s = false := by simpa using h1
    simp only [e59_0, e59_1, e59_4, e59_5, e59_8, e59_11, e59_12, e59_15, e59_16, e59_17, e59_20, e59_21, e59_24, e59_25, e59_26, e59_29, e59_32, e59_33, e59_34, e59_35, e59_36, e59_37, zgF, zgA, zgR, zisO, zpush, zopt_some, ↓reduceIte, List.getElem?_cons_succ, List.getElem?_cons_zero, beq_self_eq_true, true_and, and_true, Bool.true_and, Bool.and_true, Bool.false_and, Bool.and_false, nI_1, not_true_eq_false, not_false_eq_true, vp_narI, hD', s0, c1, e1, e2, h1', zb_f, Bool.false_eq_true]
theorem l_D_mostOverloaded {cf sf lf : Nat → Int32} {t : Int32} (hg : zG a) (hD : zDo h P T) (hS : zSt h 1 a) (hL : zLo h P cf sf lf t) (ht : t = tot a (gN a 3)) (hl : ∀ s, s < 12 → lf s = ldF a (gN a 3) s) :
    ∀ (j i : Nat) (v5 : Value), i + j = gN a 2 → Ev 60 16 [.ref 0, .int (wsum a (gN a 2)), .int (encB (mst a i)), .int (encA a (mst a i)), .int (nI i), v5] [] (h, z) Q = Q (some (.int (encB (mst a (gN a 2))))) (h, z) := by
  have hD' : h[0]? = some (zob 5 [.ref 1, .ref 10, .ref 75, .ref 76, .ref 77, .ref 80, .ref P, .ref T]) := hD
  obtain ⟨g2, b2⟩ := hg.2.2.1
  have s0 := hS.1
  have c1 := fun (s : Int32) (Q : Option Value → zX → Prop) => c_S_takesPart (s := s) (z := z) (Q := Q) hS hg
  intro j
  induction j with
  | zero =>
    intro i v5 hi
    have hi : i = gN a 2 := by omega
    subst hi
    have e1 : a 2 ≤ nI (gN a 2) := by rw [← g2]; exact Int32.le_refl _
    rw [e60_16]
    simp only [e60_0, e60_1, e60_4, e60_7, e60_8, e60_10, e60_11, e60_12, e60_13, e60_14, e60_18, e60_19, e60_22, e60_25, e60_28, e60_29, e60_32, e60_34, e60_37, e60_40, e60_43, e60_44, e60_47, e60_50, e60_52, e60_53, e60_54, e60_55, e60_57, e60_58, e60_61, e60_62, e60_65, e60_66, e60_68, e60_69, e60_71, e60_74, e60_76, e60_77, e60_80, e60_82, e60_83, e60_85, e60_86, e60_89, e60_92, e60_93, zgF, zgA, zgR, zisO, zpush, zopt_some, ↓reduceIte, List.getElem?_cons_succ, List.getElem?_cons_zero, beq_self_eq_true, true_and, and_true, Bool.true_and, Bool.and_true, Bool.false_and, Bool.and_false, nI_1, not_true_eq_false, not_false_eq_true, vp_narI, hD', s0, e1]
  | succ j ih =>
    intro i v5 hi
    have hlt : i < gN a 2 := by omega
    have e0 : ¬ a 2 ≤ nI i := by rw [g2]; exact nI_ge hlt (by omega)
    have e1 : zinb (nI i) (gN a 2) = true := zinb_nI hlt (by omega)
    have e2 : (nI i).toNatClampNeg = i := nI_clamp (by omega)
    have e3 : zinb (nI i) 12 = true := zinb_nI (by omega) (by decide)
    have c2 := fun (Q : Option Value → zX → Prop) => c_D_fairShare (Q := Q) (z := z) hg hlt hD hS hL ht
    have ih := fun v5 => ih (i + 1) v5 (by omega)
    rw [e60_16]
    by_cases h1 : tp a i = true
    · have eabv : 1000 * ldF a (gN a 3) i - fsh a i = abv a i := rfl
      cases hm : mst a i with
      | none =>
        simp only [e60_0, e60_1, e60_4, e60_7, e60_8, e60_10, e60_11, e60_12, e60_13, e60_14, e60_18, e60_19, e60_22, e60_25, e60_28, e60_29, e60_32, e60_34, e60_37, e60_40, e60_43, e60_44, e60_47, e60_50, e60_52, e60_53, e60_54, e60_55, e60_57, e60_58, e60_61, e60_62, e60_65, e60_66, e60_68, e60_69, e60_71, e60_74, e60_76, e60_77, e60_80, e60_82, e60_83, e60_85, e60_86, e60_89, e60_92, e60_93, zgF, zgA, zgR, zisO, zpush, zopt_some, ↓reduceIte, List.getElem?_cons_succ, List.getElem?_cons_zero, beq_self_eq_true, true_and, and_true, Bool.true_and, Bool.and_true, Bool.false_and, Bool.and_false, nI_1, not_true_eq_false, not_false_eq_true, vp_narI, hD', s0, e0, c1, c2, e1, e2, e3, h1, zb_t, (show ¬ (1 : Int32) = 0 by decide), hL.1, hL.2.2.2, hl i (by omega), eabv, encB]
        have := ih (.int (abv a i))
        rw [mst, if_pos h1, hm] at this
        exact this
      | some b =>
        have hb := mst_lt a i b hm
        have n6 : ¬ nI b = -6 := nI_ne6 (by omega)
        by_cases h2 : abv a b < abv a i
        · have h3 : ¬ abv a i ≤ abv a b := Int32.not_le.mpr h2
          simp only [e60_0, e60_1, e60_4, e60_7, e60_8, e60_10, e60_11, e60_12, e60_13, e60_14, e60_18, e60_19, e60_22, e60_25, e60_28, e60_29, e60_32, e60_34, e60_37, e60_40, e60_43, e60_44, e60_47, e60_50, e60_52, e60_53, e60_54, e60_55, e60_57, e60_58, e60_61, e60_62, e60_65, e60_66, e60_68, e60_69, e60_71, e60_74, e60_76, e60_77, e60_80, e60_82, e60_83, e60_85, e60_86, e60_89, e60_92, e60_93, zgF, zgA, zgR, zisO, zpush, zopt_some, ↓reduceIte, List.getElem?_cons_succ, List.getElem?_cons_zero, beq_self_eq_true, true_and, and_true, Bool.true_and, Bool.and_true, Bool.false_and, Bool.and_false, nI_1, not_true_eq_false, not_false_eq_true, vp_narI, hD', s0, e0, c1, c2, e1, e2, e3, h1, zb_t, (show ¬ (1 : Int32) = 0 by decide), hL.1, hL.2.2.2, hl i (by omega), eabv, encB, encA, n6, h3]
          have := ih (.int (abv a i))
          rw [mst, if_pos h1, hm] at this
          simp only [if_pos h2] at this
          exact this
        · have h3 : abv a i ≤ abv a b := Int32.not_lt.mp h2
          simp only [e60_0, e60_1, e60_4, e60_7, e60_8, e60_10, e60_11, e60_12, e60_13, e60_14, e60_18, e60_19, e60_22, e60_25, e60_28, e60_29, e60_32, e60_34, e60_37, e60_40, e60_43, e60_44, e60_47, e60_50, e60_52, e60_53, e60_54, e60_55, e60_57, e60_58, e60_61, e60_62, e60_65, e60_66, e60_68, e60_69, e60_71, e60_74, e60_76, e60_77, e60_80, e60_82, e60_83, e60_85, e60_86, e60_89, e60_92, e60_93, zgF, zgA, zgR, zisO, zpush, zopt_some, ↓reduceIte, List.getElem?_cons_succ, List.getElem?_cons_zero, beq_self_eq_true, true_and, and_true, Bool.true_and, Bool.and_true, Bool.false_and, Bool.and_false, nI_1, not_true_eq_false, not_false_eq_true, vp_narI, hD', s0, e0, c1, c2, e1, e2, e3, h1, zb_t, (show ¬ (1 : Int32) = 0 by decide), hL.1, hL.2.2.2, hl i (by omega), eabv, encB, encA, n6, h3]
          have := ih (.int (abv a i))
          rw [mst, if_pos h1, hm] at this
          simp only [if_neg h2] at this
          exact this
    · have h1' : tp a i = false := by simpa using h1
      simp only [e60_0, e60_1, e60_4, e60_7, e60_8, e60_10, e60_11, e60_12, e60_13, e60_14, e60_18, e60_19, e60_22, e60_25, e60_28, e60_29, e60_32, e60_34, e60_37, e60_40, e60_43, e60_44, e60_47, e60_50, e60_52, e60_53, e60_54, e60_55, e60_57, e60_58, e60_61, e60_62, e60_65, e60_66, e60_68, e60_69, e60_71, e60_74, e60_76, e60_77, e60_80, e60_82, e60_83, e60_85, e60_86, e60_89, e60_92, e60_93, zgF, zgA, zgR, zisO, zpush, zopt_some, ↓reduceIte, List.getElem?_cons_succ, List.getElem?_cons_zero, beq_self_eq_true, true_and, and_true, Bool.true_and, Bool.and_true, Bool.false_and, Bool.and_false, nI_1, not_true_eq_false, not_false_eq_true, vp_narI, hD', s0, e0, c1, e1, e2, h1', zb_f]
      have := ih v5
      rw [mst, if_neg h1] at this
      exact this
theorem c_D_mostOverloaded {cf sf lf : Nat → Int32} {t : Int32} (hg : zG a) (hD : zDo h P T) (hS : zSt h 1 a) (hL : zLo h P cf sf lf t) (ht : t = tot a (gN a 3)) (hl : ∀ s, s < 12 → lf s = ldF a (gN a 3) s) :
    Ev 60 0 [.ref 0, zU, zU, zU, zU, zU] [] (h, z) Q = Q (some (.int (encB (mst a (gN a 2))))) (h, z) := by
  have hD' : h[0]? = some (zob 5 [.ref 1, .ref 10, .ref 75, .ref 76, .ref 77, .ref 80, .ref P, .ref T]) := hD
  have s0 := hS.1
  have c1 := fun (Q : Option Value → zX → Prop) => c_S_weightsTogether (z := z) (Q := Q) hS hg
  refine Eq.trans ?_ (l_D_mostOverloaded hg hD hS hL ht hl (gN a 2) 0 zU (by omega))
  simp only [e60_0, e60_1, e60_4, e60_7, e60_8, e60_10, e60_11, e60_12, e60_13, e60_14, e60_18, e60_19, e60_22, e60_25, e60_28, e60_29, e60_32, e60_34, e60_37, e60_40, e60_43, e60_44, e60_47, e60_50, e60_52, e60_53, e60_54, e60_55, e60_57, e60_58, e60_61, e60_62, e60_65, e60_66, e60_68, e60_69, e60_71, e60_74, e60_76, e60_77, e60_80, e60_82, e60_83, e60_85, e60_86, e60_89, e60_92, e60_93, zgF, zgA, zgR, zisO, zpush, zopt_some, ↓reduceIte, List.getElem?_cons_succ, List.getElem?_cons_zero, beq_self_eq_true, true_and, and_true, Bool.true_and, Bool.and_true, Bool.false_and, Bool.and_false, nI_1, not_true_eq_false, not_false_eq_true, vp_narI, hD', s0, c1]
  rfl
end ZC
end
