/-! reading an order -/
section
set_option maxRecDepth 100000
def rd2 (f : Nat → Int32) (l : Nat) (c : Int32) (q : Nat) : Bool × Nat × Int32 :=
  if c = 119 then (if skB f l q 61 = true then (!decide (rdV f l (q + 1) = -6), rdA f l (q + 1), rdV f l (q + 1)) else (false, q, 0))
  else if c = 112 then (if skB f l q 64 = true then (if skB f l (q + 1) 45 = true then (true, q + 1 + 1, -6) else (!decide (rdV f l (q + 1) = -6), rdA f l (q + 1), rdV f l (q + 1))) else (false, q, 0))
  else (true, q, 0)
def isO (c : Int32) : Bool := decide (c = 43) || decide (c = 45) || decide (c = 100) || decide (c = 117) || decide (c = 119) || decide (c = 112)
def rdO (f : Nat → Int32) (l p : Nat) : Bool × Nat × Int32 :=
  if p < l ∧ isO (f p) = true then (if rdV f l (p + 1) = -6 then (false, rdA f l (p + 1), 0) else rd2 f l (f p) (rdA f l (p + 1))) else (false, p, 0)
theorem skB_lt {f : Nat → Int32} {l p : Nat} {c : Int32} (h : skB f l p c = true) : p < l ∧ f p = c := by
  unfold skB at h; simpa using h
theorem rdA_le {f : Nat → Int32} {l p : Nat} (h : p ≤ l) : p ≤ rdA f l p ∧ rdA f l p ≤ l := by
  unfold rdA
  split
  next hs => have := (skB_lt hs).1; omega
  next => have := numL_le f l 4 0 p h; omega
section ZC
variable {h : List zC} {z : Nat × (Nat × (Nat → Int32))} {Q : Option Value → zX → Prop} {l p : Nat} {kd fi se : Int32} {f : Nat → Int32}
theorem zPx.k (hP : zPx h l p kd fi se f) (c : Int32) : zPx (h.set 80 (zob 2 [.ref 81, .int (nI l), .int (nI p), .int c, .int fi, .int se])) l p c fi se f := ⟨zset_self hP.1, zset_ne hP.2 (by decide)⟩
theorem zPx.f1 (hP : zPx h l p kd fi se f) (c : Int32) : zPx (h.set 80 (zob 2 [.ref 81, .int (nI l), .int (nI p), .int kd, .int c, .int se])) l p kd c se f := ⟨zset_self hP.1, zset_ne hP.2 (by decide)⟩
theorem zPx.s2 (hP : zPx h l p kd fi se f) (c : Int32) : zPx (h.set 80 (zob 2 [.ref 81, .int (nI l), .int (nI p), .int kd, .int fi, .int c])) l p kd fi c f := ⟨zset_self hP.1, zset_ne hP.2 (by decide)⟩
theorem c_P_readFirst (hl : l ≤ 60) (hp : p ≤ l) (hP : zPx h l p kd fi se f) (hQ : ∀ h' : List zC, zFr (fun j => j = 80) h h' → zPx h' l (rdA f l p) kd (rdV f l p) se f → Q (some (.int (zb (!decide (rdV f l p = -6))))) (h', z)) :
    Ev 18 0 [.ref 80] [] (h, z) Q := by
  have x0 := hP.1
  simp only [e18_0, e18_1, e18_2, e18_8, e18_9, e18_12, e18_14, e18_17, e18_18, e18_21, e18_22, zgF, zgA, zgR, zisO, zpush, zopt_some, ↓reduceIte, List.getElem?_cons_succ, List.getElem?_cons_zero, beq_self_eq_true, true_and, and_true, Bool.true_and, Bool.and_true, Bool.false_and, Bool.and_false, nI_1, not_true_eq_false, not_false_eq_true, vp_narI, x0]
  refine c_P_readNumber hl hp hP (fun h1 F1 P1 => ?_)
  have y0 := P1.1
  simp only [e18_0, e18_1, e18_2, e18_5, e18_9, e18_12, e18_14, e18_17, e18_18, e18_21, e18_22, zgF, zgA, zgR, zisO, zpush, zopt_some, ↓reduceIte, List.getElem?_cons_succ, List.getElem?_cons_zero, beq_self_eq_true, true_and, and_true, Bool.true_and, Bool.and_true, Bool.false_and, Bool.and_false, nI_1, not_true_eq_false, not_false_eq_true, vp_narI, y0, zpF, List.length_cons, List.length_nil, Nat.reduceAdd, Nat.reduceLT, and_self, List.set_cons_succ, List.set_cons_zero]
  have P2 := P1.f1 (rdV f l p)
  have hQ := hQ _ (F1.tr (zFr.set rfl)) P2
  have w0 := P2.1
  by_cases h6 : rdV f l p = -6
  · simp only [h6, decide_true, Bool.not_true, zb_f] at hQ w0 ⊢
    simp only [e18_0, e18_1, e18_2, e18_5, e18_8, e18_9, e18_12, e18_14, e18_17, e18_18, e18_21, e18_22, zgF, zgA, zgR, zisO, zpush, zopt_some, ↓reduceIte, List.getElem?_cons_succ, List.getElem?_cons_zero, beq_self_eq_true, true_and, and_true, Bool.true_and, Bool.and_true, Bool.false_and, Bool.and_false, nI_1, not_true_eq_false, not_false_eq_true, vp_narI, w0, z0_and]
    exact hQ
  · simp only [h6, decide_false, Bool.not_false, zb_t] at hQ
    simp only [e18_0, e18_1, e18_2, e18_5, e18_8, e18_9, e18_12, e18_14, e18_17, e18_18, e18_21, e18_22, zgF, zgA, zgR, zisO, zpush, zopt_some, ↓reduceIte, List.getElem?_cons_succ, List.getElem?_cons_zero, beq_self_eq_true, true_and, and_true, Bool.true_and, Bool.and_true, Bool.false_and, Bool.and_false, nI_1, not_true_eq_false, not_false_eq_true, vp_narI, w0, h6, z1_and]
    exact hQ
theorem c_P_readSecond (hl : l ≤ 60) (hp : p ≤ l) (hP : zPx h l p kd fi se f) (hQ : ∀ h' : List zC, zFr (fun j => j = 80) h h' → zPx h' l (rdA f l p) kd fi (rdV f l p) f → Q (some (.int (zb (!decide (rdV f l p = -6))))) (h', z)) :
    Ev 19 0 [.ref 80] [] (h, z) Q := by
  have x0 := hP.1
  simp only [e19_0, e19_1, e19_2, e19_8, e19_9, e19_12, e19_14, e19_17, e19_18, e19_21, e19_22, zgF, zgA, zgR, zisO, zpush, zopt_some, ↓reduceIte, List.getElem?_cons_succ, List.getElem?_cons_zero, beq_self_eq_true, true_and, and_true, Bool.true_and, Bool.and_true, Bool.false_and, Bool.and_false, nI_1, not_true_eq_false, not_false_eq_true, vp_narI, x0]
  refine c_P_readNumber hl hp hP (fun h1 F1 P1 => ?_)
  have y0 := P1.1
  simp only [e19_0, e19_1, e19_2, e19_5, e19_9, e19_12, e19_14, e19_17, e19_18, e19_21, e19_22, zgF, zgA, zgR, zisO, zpush, zopt_some, ↓reduceIte, List.getElem?_cons_succ, List.getElem?_cons_zero, beq_self_eq_true, true_and, and_true, Bool.true_and, Bool.and_true, Bool.false_and, Bool.and_false, nI_1, not_true_eq_false, not_false_eq_true, vp_narI, y0, zpF, List.length_cons, List.length_nil, Nat.reduceAdd, Nat.reduceLT, and_self, List.set_cons_succ, List.set_cons_zero]
  have P2 := P1.s2 (rdV f l p)
  have hQ := hQ _ (F1.tr (zFr.set rfl)) P2
  have w0 := P2.1
  by_cases h6 : rdV f l p = -6
  · simp only [h6, decide_true, Bool.not_true, zb_f] at hQ w0 ⊢
    simp only [e19_0, e19_1, e19_2, e19_5, e19_8, e19_9, e19_12, e19_14, e19_17, e19_18, e19_21, e19_22, zgF, zgA, zgR, zisO, zpush, zopt_some, ↓reduceIte, List.getElem?_cons_succ, List.getElem?_cons_zero, beq_self_eq_true, true_and, and_true, Bool.true_and, Bool.and_true, Bool.false_and, Bool.and_false, nI_1, not_true_eq_false, not_false_eq_true, vp_narI, w0, z0_and]
    exact hQ
  · simp only [h6, decide_false, Bool.not_false, zb_t] at hQ
    simp only [e19_0, e19_1, e19_2, e19_5, e19_8, e19_9, e19_12, e19_14, e19_17, e19_18, e19_21, e19_22, zgF, zgA, zgR, zisO, zpush, zopt_some, ↓reduceIte, List.getElem?_cons_succ, List.getElem?_cons_zero, beq_self_eq_true, true_and, and_true, Bool.true_and, Bool.and_true, Bool.false_and, Bool.and_false, nI_1, not_true_eq_false, not_false_eq_true, vp_narI, w0, h6, z1_and]
    exact hQ
theorem c_P_readNone (hl : l ≤ 60) (hp : p ≤ l) (hP : zPx h l p kd fi se f) (hQ : ∀ h' : List zC, zFr (fun j => j = 80) h h' → zPx h' l (skA f l p 45) kd fi (-6) f → Q (some (.int (zb (skB f l p 45)))) (h', z)) :
    Ev 17 0 [.ref 80] [] (h, z) Q := by
  have x0 := hP.1
  have P2 := hP.s2 (-6)
  have w0 := P2.1
  simp only [e17_0, e17_1, e17_3, e17_6, e17_7, e17_12, zgF, zgA, zgR, zisO, zpush, zopt_some, ↓reduceIte, List.getElem?_cons_succ, List.getElem?_cons_zero, beq_self_eq_true, true_and, and_true, Bool.true_and, Bool.and_true, Bool.false_and, Bool.and_false, nI_1, not_true_eq_false, not_false_eq_true, vp_narI, x0, zpF, List.length_cons, List.length_nil, Nat.reduceAdd, Nat.reduceLT, and_self, List.set_cons_succ, List.set_cons_zero]
  have F2 : zFr (fun j => j = 80) h (h.set 80 (zob 2 [.ref 81, .int (nI l), .int (nI p), .int kd, .int fi, .int (-6)])) := zFr.set rfl
  generalize h.set 80 (zob 2 [.ref 81, .int (nI l), .int (nI p), .int kd, .int fi, .int (-6)]) = h1 at P2 w0 F2 ⊢
  simp only [e17_0, e17_1, e17_3, e17_6, e17_7, e17_9, e17_12, zgF, zgA, zgR, zisO, zpush, zopt_some, ↓reduceIte, List.getElem?_cons_succ, List.getElem?_cons_zero, beq_self_eq_true, true_and, and_true, Bool.true_and, Bool.and_true, Bool.false_and, Bool.and_false, nI_1, not_true_eq_false, not_false_eq_true, vp_narI, w0]
  refine c_P_skip hl hp P2 (fun h' F' P' => ?_)
  simp only [e17_0, e17_1, e17_3, e17_6, e17_7, e17_9, e17_12, zgF, zgA, zgR, zisO, zpush, zopt_some, ↓reduceIte, List.getElem?_cons_succ, List.getElem?_cons_zero, beq_self_eq_true, true_and, and_true, Bool.true_and, Bool.and_true, Bool.false_and, Bool.and_false, nI_1, not_true_eq_false, not_false_eq_true, vp_narI, zb_and1]
  exact hQ h' (F2.tr F') P'
end ZC
end
