/-! the pad: skipping, numbers -/
section
set_option maxRecDepth 100000
def zPx (h : List zC) (l at_ : Nat) (kd fi se : Int32) (f : Nat → Int32) : Prop := h[80]? = some (zob 2 [.ref 81, .int (nI l), .int (nI at_), .int kd, .int fi, .int se]) ∧ h[81]? = some (zar .char 60 f)
def skB (f : Nat → Int32) (l p : Nat) (c : Int32) : Bool := decide (p < l) && decide (f p = c)
def skA (f : Nat → Int32) (l p : Nat) (c : Int32) : Nat := if skB f l p c = true then p + 1 else p
def digB (f : Nat → Int32) (l p : Nat) : Bool := decide (p < l) && (decide (48 ≤ f p) && decide (f p ≤ 57))
def numL (f : Nat → Int32) (l : Nat) : Nat → Int32 → Nat → Int32 × Nat
  | 0, n, p => (n, p)
  | k + 1, n, p => if digB f l p = true then numL f l k (n * 10 + (f p - 48)) (p + 1) else (n, p)
theorem numL_le (f : Nat → Int32) (l : Nat) : ∀ k n p, p ≤ l → p ≤ (numL f l k n p).2 ∧ (numL f l k n p).2 ≤ l ∧ (numL f l k n p).2 ≤ p + k
  | 0, n, p, h => ⟨Nat.le_refl _, h, Nat.le_refl _⟩
  | k + 1, n, p, h => by
    unfold numL
    split
    next hd =>
      have hp : p < l := by unfold digB at hd; simp at hd; exact hd.1
      have := numL_le f l k (n * 10 + (f p - 48)) (p + 1) (by omega)
      omega
    next => exact ⟨Nat.le_refl _, h, Nat.le_add_right _ _⟩
section ZC
variable {h : List zC} {z : Nat × (Nat × (Nat → Int32))} {Q : Option Value → zX → Prop} {l p : Nat} {kd fi se : Int32} {f : Nat → Int32}
theorem zPx.at (hP : zPx h l p kd fi se f) (q : Nat) : zPx (h.set 80 (zob 2 [.ref 81, .int (nI l), .int (nI q), .int kd, .int fi, .int se])) l q kd fi se f := ⟨zset_self hP.1, zset_ne hP.2 (by decide)⟩
theorem c_P_skip {c : Int32} (hl : l ≤ 60) (hp : p ≤ l) (hP : zPx h l p kd fi se f) (hQ : ∀ h' : List zC, zFr (fun j => j = 80) h h' → zPx h' l (skA f l p c) kd fi se f → Q (some (.int (zb (skB f l p c)))) (h', z)) :
    Ev 16 0 [.ref 80, .int c] [] (h, z) Q := by
  obtain ⟨h0, h1⟩ := id hP
  unfold skA skB at hQ
  by_cases h2 : p < l
  · have a1 : ¬ nI l ≤ nI p := nI_ge h2 (by omega)
    have e1 : zinb (nI p) 60 = true := zinb_nI (by omega) (by decide)
    have e2 : (nI p).toNatClampNeg = p := nI_clamp (by omega)
    by_cases h3 : f p = c
    · simp only [h2, h3, decide_true, Bool.and_self, ↓reduceIte] at hQ
      simp only [e16_0, e16_1, e16_4, e16_5, e16_8, e16_11, e16_12, e16_15, e16_16, e16_19, e16_20, e16_21, e16_24, e16_25, e16_26, e16_27, e16_28, e16_31, e16_32, e16_33, e16_36, e16_37, zgF, zgA, zgR, zisO, zpush, zopt_some, ↓reduceIte, List.getElem?_cons_succ, List.getElem?_cons_zero, beq_self_eq_true, true_and, and_true, Bool.true_and, Bool.and_true, Bool.false_and, Bool.and_false, nI_1, not_true_eq_false, not_false_eq_true, vp_narI, h0, h1, a1, e1, e2, h3, zpF, List.length_cons, List.length_nil, Nat.reduceAdd, Nat.reduceLT, and_self, List.set_cons_succ, List.set_cons_zero, z1_and, z0_and, zb_t, zb_f]
      exact hQ _ (zFr.set rfl) (hP.at (p + 1))
    · simp only [h2, h3, decide_true, decide_false, Bool.and_false, Bool.false_eq_true, ↓reduceIte] at hQ
      simp only [e16_0, e16_1, e16_4, e16_5, e16_8, e16_11, e16_12, e16_15, e16_16, e16_19, e16_20, e16_21, e16_24, e16_25, e16_26, e16_27, e16_28, e16_31, e16_32, e16_33, e16_36, e16_37, zgF, zgA, zgR, zisO, zpush, zopt_some, ↓reduceIte, List.getElem?_cons_succ, List.getElem?_cons_zero, beq_self_eq_true, true_and, and_true, Bool.true_and, Bool.and_true, Bool.false_and, Bool.and_false, nI_1, not_true_eq_false, not_false_eq_true, vp_narI, h0, h1, a1, e1, e2, h3, z1_and, z0_and]
      exact hQ h zFr.rf hP
  · have a1 : nI l ≤ nI p := nI_le (by omega) (by omega)
    simp only [h2, decide_false, Bool.false_and, Bool.false_eq_true, ↓reduceIte] at hQ
    simp only [e16_0, e16_1, e16_4, e16_5, e16_8, e16_11, e16_12, e16_15, e16_16, e16_19, e16_20, e16_21, e16_24, e16_25, e16_26, e16_27, e16_28, e16_31, e16_32, e16_33, e16_36, e16_37, zgF, zgA, zgR, zisO, zpush, zopt_some, ↓reduceIte, List.getElem?_cons_succ, List.getElem?_cons_zero, beq_self_eq_true, true_and, and_true, Bool.true_and, Bool.and_true, Bool.false_and, Bool.and_false, nI_1, not_true_eq_false, not_false_eq_true, vp_narI, h0, h1, a1, z1_and, z0_and]
    exact hQ h zFr.rf hP
end ZC
end
