/-! leaves of the landed one: its state's counts, its straws -/
section
set_option maxRecDepth 100000
def npin (a : Nat → Int32) (s : Int32) : Nat → Int32
  | 0 => 0
  | i + 1 => npin a s i + (if a (81 + i) = s then 1 else 0)
/-- the first of j places from i on, or none -/
def fndF (p : Nat → Bool) : Nat → Nat → Int32
  | 0, _ => -6
  | j + 1, i => if p i = true then nI i else fndF p j (i + 1)
section ZC
variable {h : List zC} {z : Nat × (Nat × (Nat → Int32))} {k : Nat} {a : Nat → Int32} {Q : Option Value → zX → Prop}
theorem c_S_weightsTogether (hS : zSt h k a) (hg : zG a) : Ev 17 0 [.ref k, zU, zU] [] (h, z) Q = Q (some (.int (wsum a (gN a 2)))) (h, z) := by
  refine Eq.trans ?_ (l_S_weightsTogether hS hg (gN a 2) 0 (by omega))
  simp only [e17_0, e17_1, e17_2, e17_3, e17_5, e17_6, e17_9, e17_12, e17_13, e17_14, e17_17, e17_20, e17_21, e17_22, e17_25, e17_26, e17_27, e17_28, e17_29, e17_32, e17_35, e17_36]
  rfl
theorem l_S_serversTakingPart (hS : zSt h k a) (hg : zG a) : ∀ j i : Nat, i + j = gN a 2 → Ev 16 4 [.ref k, .int (ntp a i), .int (nI i)] [] (h, z) Q = Q (some (.int (ntp a (gN a 2)))) (h, z) := by
  obtain ⟨h2, h12⟩ := hg.2.2.1
  obtain ⟨h0, -⟩ := id hS
  intro j
  induction j with
  | zero =>
    intro i hi
    have hi : i = gN a 2 := by omega
    subst hi
    have e1 : a 2 ≤ nI (gN a 2) := by rw [← h2]; exact Int32.le_refl _
    simp only [e16_0, e16_1, e16_2, e16_3, e16_4, e16_5, e16_6, e16_9, e16_12, e16_13, e16_14, e16_17, e16_20, e16_23, e16_26, e16_29, e16_30, zgF, zgA, zgR, zisO, zpush, zopt_some, ↓reduceIte, List.getElem?_cons_succ, List.getElem?_cons_zero, beq_self_eq_true, true_and, and_true, Bool.true_and, Bool.and_true, Bool.false_and, Bool.and_false, nI_1, not_true_eq_false, not_false_eq_true, vp_narI, h0, e1]
  | succ j ih =>
    intro i hi
    have hlt : i < gN a 2 := by omega
    have e1 : ¬ a 2 ≤ nI i := by rw [h2]; exact nI_ge hlt (by omega)
    have e5 : zinb (nI i) (gN a 2) = true := zinb_nI hlt (by omega)
    have e4 : (nI i).toNatClampNeg = i := nI_clamp (by omega)
    rw [← ih (i + 1) (by omega), e16_4]
    have hT := fun (s : Int32) (Q : Option Value → zX → Prop) => c_S_takesPart (s := s) (Q := Q) (z := z) hS hg
    simp only [e16_0, e16_1, e16_2, e16_3, e16_5, e16_6, e16_9, e16_12, e16_13, e16_14, e16_17, e16_20, e16_23, e16_26, e16_29, e16_30, zgF, zgA, zgR, zisO, zpush, zopt_some, ↓reduceIte, List.getElem?_cons_succ, List.getElem?_cons_zero, beq_self_eq_true, true_and, and_true, Bool.true_and, Bool.and_true, Bool.false_and, Bool.and_false, nI_1, not_true_eq_false, not_false_eq_true, vp_narI, h0, hT, e1, e4, e5, zb_eq0]
    by_cases h5 : tp a i = true
    · simp only [h5, ntp, if_true, Bool.true_eq_false, if_false]
    · have h5 : tp a i = false := by simpa using h5
      simp only [h5, ntp, if_true, Bool.false_eq_true, if_false, Int32.add_zero]
theorem c_S_serversTakingPart (hS : zSt h k a) (hg : zG a) : Ev 16 0 [.ref k, zU, zU] [] (h, z) Q = Q (some (.int (ntp a (gN a 2)))) (h, z) := by
  refine Eq.trans ?_ (l_S_serversTakingPart hS hg (gN a 2) 0 (by omega))
  simp only [e16_0, e16_1, e16_2, e16_3, e16_5, e16_6, e16_9, e16_12, e16_13, e16_14, e16_17, e16_20, e16_23, e16_26, e16_29, e16_30]
  rfl
theorem l_S_pinsTo {s : Int32} (hS : zSt h k a) (hg : zG a) : ∀ j i : Nat, i + j = gN a 3 → Ev 18 4 [.ref k, .int s, .int (npin a s i), .int (nI i)] [] (h, z) Q = Q (some (.int (npin a s (gN a 3)))) (h, z) := by
  obtain ⟨h2, h12⟩ := hg.2.2.2.1
  obtain ⟨h0, -, -, -, -, ⟨fp, hp, ep⟩, -⟩ := id hS
  intro j
  induction j with
  | zero =>
    intro i hi
    have hi : i = gN a 3 := by omega
    subst hi
    have e1 : a 3 ≤ nI (gN a 3) := by rw [← h2]; exact Int32.le_refl _
    simp only [e18_0, e18_1, e18_2, e18_3, e18_4, e18_5, e18_6, e18_9, e18_12, e18_13, e18_16, e18_17, e18_18, e18_19, e18_22, e18_25, e18_28, e18_31, e18_32, zgF, zgA, zgR, zisO, zpush, zopt_some, ↓reduceIte, List.getElem?_cons_succ, List.getElem?_cons_zero, beq_self_eq_true, true_and, and_true, Bool.true_and, Bool.and_true, Bool.false_and, Bool.and_false, nI_1, not_true_eq_false, not_false_eq_true, vp_narI, h0, e1]
  | succ j ih =>
    intro i hi
    have hlt : i < gN a 3 := by omega
    have e1 : ¬ a 3 ≤ nI i := by rw [h2]; exact nI_ge hlt (by omega)
    have e3 : zinb (nI i) 40 = true := zinb_nI (by omega) (by decide)
    have e4 : (nI i).toNatClampNeg = i := nI_clamp (by omega)
    rw [← ih (i + 1) (by omega), e18_4]
    simp only [e18_0, e18_1, e18_2, e18_3, e18_5, e18_6, e18_9, e18_12, e18_13, e18_16, e18_17, e18_18, e18_19, e18_22, e18_25, e18_28, e18_31, e18_32, zgF, zgA, zgR, zisO, zpush, zopt_some, ↓reduceIte, List.getElem?_cons_succ, List.getElem?_cons_zero, beq_self_eq_true, true_and, and_true, Bool.true_and, Bool.and_true, Bool.false_and, Bool.and_false, nI_1, not_true_eq_false, not_false_eq_true, vp_narI, h0, hp, e1, e3, e4, ep i hlt]
    by_cases h5 : a (81 + i) = s
    · simp only [h5, npin, if_true, not_true_eq_false, if_false]
    · simp only [h5, npin, not_false_eq_true, if_true, if_false, Int32.add_zero]
theorem c_S_pinsTo {s : Int32} (hS : zSt h k a) (hg : zG a) : Ev 18 0 [.ref k, .int s, zU, zU] [] (h, z) Q = Q (some (.int (npin a s (gN a 3)))) (h, z) := by
  refine Eq.trans ?_ (l_S_pinsTo hS hg (gN a 3) 0 (by omega))
  simp only [e18_0, e18_1, e18_2, e18_3, e18_5, e18_6, e18_9, e18_12, e18_13, e18_16, e18_17, e18_18, e18_19, e18_22, e18_25, e18_28, e18_31, e18_32]
  rfl
theorem l_S_rowOf {s : Int32} (hS : zSt h k a) (hg : zG a) : ∀ j i : Nat, i + j = gN a 3 → Ev 19 2 [.ref k, .int s, .int (nI i)] [] (h, z) Q = Q (some (.int (fndF (fun i => a (41 + i) == s) j i))) (h, z) := by
  obtain ⟨h2, h12⟩ := hg.2.2.2.1
  obtain ⟨h0, -, -, -, ⟨fp, hp, ep⟩, -⟩ := id hS
  intro j
  induction j with
  | zero =>
    intro i hi
    have hi : i = gN a 3 := by omega
    subst hi
    have e1 : a 3 ≤ nI (gN a 3) := by rw [← h2]; exact Int32.le_refl _
    simp only [e19_0, e19_1, e19_2, e19_3, e19_4, e19_7, e19_10, e19_11, e19_14, e19_15, e19_16, e19_17, e19_20, e19_21, e19_22, e19_25, e19_28, e19_30, zgF, zgA, zgR, zisO, zpush, zopt_some, ↓reduceIte, List.getElem?_cons_succ, List.getElem?_cons_zero, beq_self_eq_true, true_and, and_true, Bool.true_and, Bool.and_true, Bool.false_and, Bool.and_false, nI_1, not_true_eq_false, not_false_eq_true, vp_narI, h0, e1, fndF]
  | succ j ih =>
    intro i hi
    have hlt : i < gN a 3 := by omega
    have e1 : ¬ a 3 ≤ nI i := by rw [h2]; exact nI_ge hlt (by omega)
    have e3 : zinb (nI i) 40 = true := zinb_nI (by omega) (by decide)
    have e4 : (nI i).toNatClampNeg = i := nI_clamp (by omega)
    have ih := ih (i + 1) (by omega)
    rw [e19_2]
    simp only [e19_0, e19_1, e19_3, e19_4, e19_7, e19_10, e19_11, e19_14, e19_15, e19_16, e19_17, e19_20, e19_21, e19_22, e19_25, e19_28, e19_30, zgF, zgA, zgR, zisO, zpush, zopt_some, ↓reduceIte, List.getElem?_cons_succ, List.getElem?_cons_zero, beq_self_eq_true, true_and, and_true, Bool.true_and, Bool.and_true, Bool.false_and, Bool.and_false, nI_1, not_true_eq_false, not_false_eq_true, vp_narI, h0, hp, e1, e3, e4, ep i hlt, fndF, beq_iff_eq]
    by_cases h5 : a (41 + i) = s
    · simp only [h5, not_true_eq_false, if_true, if_false]
    · simp only [h5, not_false_eq_true, if_true, if_false]
      exact ih
theorem c_S_rowOf {s : Int32} (hS : zSt h k a) (hg : zG a) : Ev 19 0 [.ref k, .int s, zU] [] (h, z) Q = Q (some (.int (fndF (fun i => a (41 + i) == s) (gN a 3) 0))) (h, z) := by
  refine Eq.trans ?_ (l_S_rowOf hS hg (gN a 3) 0 (by omega))
  simp only [e19_0, e19_1, e19_3, e19_4, e19_7, e19_10, e19_11, e19_14, e19_15, e19_16, e19_17, e19_20, e19_21, e19_22, e19_25, e19_28, e19_30]
  rfl
/-! straws -/
def stirN (x : Nat) : Nat := (x * 1103515245 + 12345) % 2147483648
def lenA (x : Nat) : Nat → Nat
  | 0 => 0
  | i + 1 => max (lenA x i) (stirN (x + 104729 * (i + 1)))
/-- the longest straw -/
def lenN (seed s w : Nat) : Nat := lenA (stirN (stirN seed + 7919 * (s + 1))) w
theorem lenA_s (x i : Nat) : lenA x (i + 1) = max (lenA x i) (stirN (x + 104729 * (i + 1))) := rfl
theorem stirN_lt (x : Nat) : stirN x < 2147483648 := Nat.mod_lt _ (by decide)
theorem lenA_lt (x : Nat) : ∀ i, lenA x i < 2147483648
  | 0 => by show 0 < 2147483648; decide
  | i + 1 => by
    have h1 := lenA_lt x i
    have h2 := stirN_lt (x + 104729 * (i + 1))
    rw [lenA_s]
    omega
theorem zlit (n : Nat) : (OfNat.ofNat n : Int32) = nI n := rfl
theorem stir_I (x : Nat) : (nI x * 1103515245 + 12345) &&& 2147483647 = nI (stirN x) := by
  have e1 : (1103515245 : Int32) = nI 1103515245 := rfl
  have e2 : (12345 : Int32) = nI 12345 := rfl
  rw [e1, e2, pk_mul, nI_add, pk_and _ 31 (by decide)]
  congr 1
  unfold stirN
  show (BitVec.ofNat 32 (x * 1103515245 + 12345)).toNat % 2 ^ 31 = _
  rw [BitVec.toNat_ofNat]
  omega
theorem c_W_stir {x : Nat} {X : zX} : Ev 28 0 [.int (nI x)] [] X Q = Q (some (.int (nI (stirN x)))) X := by
  simp only [e28_0, e28_1, e28_3, e28_4, e28_7, e28_8, e28_10, e28_11, stir_I]
theorem l_W_longest {x w : Nat} {X : zX} (l0 l1 : Int32) (hw : w ≤ 16) : ∀ j i : Nat, i + j = w → Ev 27 22 [.int l0, .int l1, .int (nI w), .int (nI x), .int (nI (lenA x i)), .int (nI i)] [] X Q = Q (some (.int (nI (lenA x w)))) X := by
  intro j
  induction j with
  | zero =>
    intro i hi
    have hi : i = w := by omega
    subst hi
    have e1 : nI i ≤ nI i := Int32.le_refl _
    simp only [e27_0, e27_1, e27_4, e27_7, e27_8, e27_9, e27_10, e27_11, e27_12, e27_15, e27_16, e27_17, e27_19, e27_20, e27_22, e27_24, e27_25, e27_28, e27_30, e27_31, e27_33, e27_35, e27_36, e27_37, e27_38, e27_39, e27_42, e27_45, e27_47, e27_50, e27_53, e27_55, zgF, zgA, zgR, zisO, zpush, zopt_some, ↓reduceIte, List.getElem?_cons_succ, List.getElem?_cons_zero, beq_self_eq_true, true_and, and_true, Bool.true_and, Bool.and_true, Bool.false_and, Bool.and_false, nI_1, not_true_eq_false, not_false_eq_true, vp_narI, e1]
  | succ j ih =>
    intro i hi
    have hlt : i < w := by omega
    have e1 : ¬ nI w ≤ nI i := nI_ge hlt (by omega)
    rw [← ih (i + 1) (by omega), e27_22]
    have e2 : nI (lenA x (i + 1)) = if nI (lenA x i) < nI (stirN (x + 104729 * (i + 1))) then nI (stirN (x + 104729 * (i + 1))) else nI (lenA x i) := by
      have h1 := lenA_lt x i
      have h2 := stirN_lt (x + 104729 * (i + 1))
      rw [lenA_s]
      by_cases h3 : lenA x i < stirN (x + 104729 * (i + 1))
      · rw [if_pos ((nI_ltI (by omega) (by omega)).mpr h3), Nat.max_eq_right (by omega)]
      · rw [if_neg (fun h => h3 ((nI_ltI (by omega) (by omega)).mp h)), Nat.max_eq_left (by omega)]
    have e3 : (104729 : Int32) = nI 104729 := rfl
    rw [e2]
    simp only [e27_0, e27_1, e27_4, e27_7, e27_8, e27_9, e27_10, e27_11, e27_12, e27_15, e27_16, e27_17, e27_19, e27_20, e27_24, e27_25, e27_28, e27_30, e27_31, e27_33, e27_35, e27_36, e27_37, e27_38, e27_39, e27_42, e27_45, e27_47, e27_50, e27_53, e27_55, zgF, zgA, zgR, zisO, zpush, zopt_some, ↓reduceIte, List.getElem?_cons_succ, List.getElem?_cons_zero, beq_self_eq_true, true_and, and_true, Bool.true_and, Bool.and_true, Bool.false_and, Bool.and_false, nI_1, not_true_eq_false, not_false_eq_true, vp_narI, e1, e3, pk_mul, nI_add, c_W_stir]
theorem c_W_longest {seed s w : Nat} {X : zX} (hw : w ≤ 16) : Ev 27 0 [.int (nI seed), .int (nI s), .int (nI w), zU, zU, zU] [] X Q = Q (some (.int (nI (lenN seed s w)))) X := by
  refine Eq.trans ?_ (l_W_longest (nI seed) (nI s) hw w 0 (by omega))
  have e3 : (7919 : Int32) = nI 7919 := rfl
  simp only [e27_0, e27_1, e27_4, e27_7, e27_8, e27_9, e27_10, e27_11, e27_12, e27_15, e27_16, e27_17, e27_19, e27_20, e27_24, e27_25, e27_28, e27_30, e27_31, e27_33, e27_35, e27_36, e27_37, e27_38, e27_39, e27_42, e27_45, e27_47, e27_50, e27_53, e27_55, zgF, zgA, zgR, zisO, zpush, zopt_some, ↓reduceIte, List.getElem?_cons_succ, List.getElem?_cons_zero, beq_self_eq_true, true_and, and_true, Bool.true_and, Bool.and_true, Bool.false_and, Bool.and_false, nI_1, not_true_eq_false, not_false_eq_true, vp_narI, c_W_stir, e3, pk_mul, nI_add]
  rfl
end ZC
end
