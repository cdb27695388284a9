/-! words for the states, and what both sides' methods answer of them -/
section
set_option maxRecDepth 100000
theorem vp_narI (x : Int32) : vp_nar .int x = x := rfl
def zb (b : Bool) : Int32 := if b = true then 1 else 0
theorem zb_t : zb true = 1 := rfl
theorem zb_f : zb false = 0 := rfl
theorem zb_and1 (b : Bool) : zb b &&& 1 = zb b := by cases b <;> rfl
theorem z1_and : (1 : Int32) &&& 1 = 1 := by decide
theorem z0_and : (0 : Int32) &&& 1 = 0 := by decide
theorem zb_eq0 (b : Bool) : (zb b = 0) = (b = false) := by cases b <;> simp [zb]
theorem zb_ne0 (b : Bool) : (¬ zb b = 0) = (b = true) := by cases b <;> simp [zb]
def gN (a : Nat → Int32) (i : Nat) : Nat := (a i).toNatClampNeg
theorem zinb_nI {k n : Nat} (h : k < n) (hn : n < 2 ^ 31) : zinb (nI k) n = true := (zinb_iff _ _).mpr (vp_in_nI h hn)
theorem zinb_ex {x : Int32} {n : Nat} (h : zinb x n = true) (hn : n < 2 ^ 31) : ∃ k, k < n ∧ x = nI k := vp_in_of ((zinb_iff _ _).mp h) hn
theorem zinb_no {x : Int32} {n : Nat} (hn : n < 2 ^ 31) : zinb x n = false ↔ (x < 0 ∨ nI n ≤ x) := by
  rw [← Bool.not_eq_true, zinb_iff, vp_in_iff]
  constructor
  · intro h
    by_cases h0 : x < 0
    · exact Or.inl h0
    · right
      rw [Int32.le_iff_toInt_le, nI_toInt hn]
      have : (0 : Int) ≤ x.toInt := by
        have := Int32.not_lt.mp h0
        simpa using Int32.le_iff_toInt_le.mp this
      omega
  · intro h h2
    rcases h with h | h
    · have := Int32.lt_iff_toInt_lt.mp h
      simp at this
      omega
    · rw [Int32.le_iff_toInt_le, nI_toInt hn] at h
      omega
/-- a kept row of numbers is well: copies, salt, servers, objects, moves; racks, weights, down; objects, pins -/
def zG (a : Nat → Int32) : Prop :=
  (a 0 = nI (gN a 0) ∧ 1 ≤ gN a 0 ∧ gN a 0 ≤ 3) ∧ (a 1 = nI (gN a 1) ∧ gN a 1 ≤ 999) ∧ (a 2 = nI (gN a 2) ∧ gN a 2 ≤ 12) ∧ (a 3 = nI (gN a 3) ∧ gN a 3 ≤ 40) ∧ (a 4 = nI (gN a 4) ∧ gN a 4 ≤ 120) ∧
  (∀ i, i < gN a 2 → (a (5 + i) = nI (gN a (5 + i)) ∧ gN a (5 + i) < 6) ∧ (a (17 + i) = nI (gN a (17 + i)) ∧ gN a (17 + i) ≤ 16) ∧ (a (29 + i) = 0 ∨ a (29 + i) = 1)) ∧
  (∀ i, i < gN a 3 → (a (41 + i) = nI (gN a (41 + i)) ∧ gN a (41 + i) ≤ 9999) ∧ (a (81 + i) = -6 ∨ ∃ j, j < gN a 2 ∧ a (81 + i) = nI j))
/-- the object State at k holds the row a -/
def zSt (h : List zC) (k : Nat) (a : Nat → Int32) : Prop :=
  h[k]? = some (zob 3 [.int (a 0), .int (a 1), .int (a 2), .ref (k + 1), .ref (k + 2), .ref (k + 3), .int (a 3), .ref (k + 4), .ref (k + 5), .int (a 4), .ref (k + 6), .ref (k + 7), .ref (k + 8)]) ∧
  (∃ f, h[k + 1]? = some (zar .int 12 f) ∧ ∀ i, i < gN a 2 → f i = a (5 + i)) ∧ (∃ f, h[k + 2]? = some (zar .int 12 f) ∧ ∀ i, i < gN a 2 → f i = a (17 + i)) ∧ (∃ f, h[k + 3]? = some (zar .boolean 12 f) ∧ ∀ i, i < gN a 2 → f i = a (29 + i)) ∧
  (∃ f, h[k + 4]? = some (zar .int 40 f) ∧ ∀ i, i < gN a 3 → f i = a (41 + i)) ∧ (∃ f, h[k + 5]? = some (zar .int 40 f) ∧ ∀ i, i < gN a 3 → f i = a (81 + i)) ∧
  (∃ f, h[k + 6]? = some (zar .int 120 f) ∧ ∀ i, i < gN a 4 → f i = a (121 + 3 * i)) ∧ (∃ f, h[k + 7]? = some (zar .int 120 f) ∧ ∀ i, i < gN a 4 → f i = a (122 + 3 * i)) ∧ (∃ f, h[k + 8]? = some (zar .int 120 f) ∧ ∀ i, i < gN a 4 → f i = a (123 + 3 * i))
/-- a server takes part -/
def tp (a : Nat → Int32) (s : Nat) : Bool := decide (a (29 + s) = 0) && decide (0 < a (17 + s))
def wsum (a : Nat → Int32) : Nat → Int32
  | 0 => 0
  | i + 1 => wsum a i + (if tp a i = true then a (17 + i) else 0)
def ntp (a : Nat → Int32) : Nat → Int32
  | 0 => 0
  | i + 1 => ntp a i + (if tp a i = true then 1 else 0)
section ZC
variable {h : List zC} {z : Nat × (Nat × (Nat → Int32))} {k : Nat} {a : Nat → Int32} {Q : Option Value → zX → Prop}
theorem c_S_hasServer {s : Int32} (hS : zSt h k a) (hg : zG a) : Ev 14 0 [.ref k, .int s] [] (h, z) Q = Q (some (.int (zb (zinb s (gN a 2))))) (h, z) := by
  obtain ⟨h0, -⟩ := hS
  obtain ⟨h2, h12⟩ := hg.2.2.1
  simp only [e14_0, e14_1, e14_4, e14_5, e14_6, e14_9, e14_12, e14_13, e14_16, e14_17, zgF, h0, if_true, List.getElem?_cons_succ, List.getElem?_cons_zero, zopt_some]
  by_cases h1 : s < 0
  · have : zinb s (gN a 2) = false := (zinb_no (by omega)).mpr (Or.inl h1)
    simp only [h1, if_true, z0_and, true_and, this, zb_f]
  · by_cases h3 : a 2 ≤ s
    · have : zinb s (gN a 2) = false := (zinb_no (by omega)).mpr (Or.inr (by rw [← h2]; exact h3))
      simp only [h1, h3, if_true, if_false, z0_and, true_and, this, zb_f]
    · have : zinb s (gN a 2) = true := by
        rw [← Bool.not_eq_false]
        intro h4
        rcases (zinb_no (by omega)).mp h4 with h5 | h5
        · exact h1 h5
        · rw [← h2] at h5; exact h3 h5
      simp only [h1, h3, if_false, z1_and, true_and, this, zb_t]
theorem c_S_takesPart {s : Int32} (hS : zSt h k a) (hg : zG a) : Ev 15 0 [.ref k, .int s] [] (h, z) Q = Q (some (.int (zb (zinb s (gN a 2) && tp a s.toNatClampNeg)))) (h, z) := by
  obtain ⟨h0, -, ⟨fw, hw, ew⟩, ⟨fd, hd, ed⟩, -⟩ := hS
  obtain ⟨h2, h12⟩ := hg.2.2.1
  simp only [e15_0, e15_1, e15_4, e15_5, e15_6, e15_9, e15_12, e15_13, e15_16, e15_17, e15_18, e15_21, e15_22, e15_25, e15_26, e15_27, e15_30, e15_31, e15_34, e15_35, zgF, zgA, h0, hw, hd, if_true, List.getElem?_cons_succ, List.getElem?_cons_zero, zopt_some]
  by_cases hb : zinb s (gN a 2) = true
  · obtain ⟨j, hj, rfl⟩ := zinb_ex hb (by omega)
    have e1 : ¬ nI j < 0 := nI_pos (by omega)
    have e2 : ¬ a 2 ≤ nI j := by rw [h2]; exact nI_ge hj (by omega)
    have e3 : zinb (nI j) 12 = true := zinb_nI (by omega) (by decide)
    have e4 : (nI j).toNatClampNeg = j := nI_clamp (by omega)
    rw [hb, e4]
    simp only [e1, e2, e3, e4, if_false, true_and, ew j hj, ed j hj, z1_and, z0_and, Bool.true_and, tp]
    by_cases h5 : a (29 + j) = 0
    · by_cases h6 : a (17 + j) ≤ 0
      · have : ¬ 0 < a (17 + j) := Int32.not_lt.mpr h6
        simp [h5, h6, this, zb]
      · have : 0 < a (17 + j) := Int32.not_le.mp h6
        simp [h5, h6, this, zb]
    · simp [h5, zb]
  · have hb : zinb s (gN a 2) = false := by simpa using hb
    rw [hb]
    rcases (zinb_no (by omega)).mp hb with h5 | h5
    · simp [h5, zb]
    · rw [← h2] at h5
      simp [h5, zb]
theorem l_S_weightsTogether (hS : zSt h k a) (hg : zG a) : ∀ j i : Nat, i + j = gN a 2 → Ev 17 4 [.ref k, .int (wsum a i), .int (nI i)] [] (h, z) Q = Q (some (.int (wsum a (gN a 2)))) (h, z) := by
  obtain ⟨h2, h12⟩ := hg.2.2.1
  obtain ⟨h0, -, ⟨fw, hw, ew⟩, -⟩ := id hS
  intro j
  induction j with
  | zero =>
    intro i hi
    have hi : i = gN a 2 := by omega
    subst hi
    have e1 : a 2 ≤ nI (gN a 2) := by rw [← h2]; exact Int32.le_refl _
    simp only [e17_0, e17_1, e17_2, e17_3, e17_4, e17_5, e17_6, e17_9, e17_12, e17_13, e17_14, e17_17, e17_20, e17_21, e17_22, e17_25, e17_26, e17_27, e17_28, e17_29, e17_32, e17_35, e17_36, zgF, zgA, h0, if_true, List.getElem?_cons_succ, List.getElem?_cons_zero, zopt_some, e1]
  | succ j ih =>
    intro i hi
    have hlt : i < gN a 2 := by omega
    have e1 : ¬ a 2 ≤ nI i := by rw [h2]; exact nI_ge hlt (by omega)
    have e3 : zinb (nI i) 12 = true := zinb_nI (by omega) (by decide)
    have e5 : zinb (nI i) (gN a 2) = true := zinb_nI hlt (by omega)
    have e4 : (nI i).toNatClampNeg = i := nI_clamp (by omega)
    have ih := ih (i + 1) (by omega)
    rw [← ih, e17_4]
    have hT := fun (s : Int32) (Q : Option Value → zX → Prop) => c_S_takesPart (s := s) (Q := Q) (z := z) hS hg
    simp only [e17_0, e17_1, e17_2, e17_3, e17_5, e17_6, e17_9, e17_12, e17_13, e17_14, e17_17, e17_20, e17_21, e17_22, e17_25, e17_26, e17_27, e17_28, e17_29, e17_32, e17_35, e17_36, zgF, zgA, zgR, zisO, zpush, zopt_some, ↓reduceIte, List.getElem?_cons_succ, List.getElem?_cons_zero, beq_self_eq_true, true_and, and_true, Bool.true_and, Bool.and_true, Bool.false_and, Bool.and_false, nI_1, not_true_eq_false, not_false_eq_true, vp_narI, h0, hw, hT, e1, e3, e4, e5, zb_eq0, ew i hlt]
    by_cases h5 : tp a i = true
    · simp only [h5, wsum, if_true, Bool.true_eq_false, if_false]
    · have h5 : tp a i = false := by simpa using h5
      simp only [h5, wsum, if_true, Bool.false_eq_true, if_false, Int32.add_zero]
end ZC
end
