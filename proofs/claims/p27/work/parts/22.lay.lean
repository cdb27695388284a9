/-! frames; fill; the layout's and the straws' methods -/
section
set_option maxRecDepth 100000
theorem zc3 : (3 : Int32) = nI 3 := rfl
theorem zc12 : (12 : Int32) = nI 12 := rfl
theorem zc17 : (17 : Int32) = nI 17 := rfl
theorem zc1000 : (1000 : Int32) = nI 1000 := rfl
theorem zc120 : (120 : Int32) = nI 120 := rfl
theorem zset_self {h : List zC} {k : Nat} {c0 c : zC} (e : h[k]? = some c0) : (h.set k c)[k]? = some c := by
  rw [List.getElem?_set_self ((List.getElem?_eq_some_iff.mp e).1)]
theorem zset_ne {h : List zC} {k j : Nat} {c : zC} {v : Option zC} (e : h[j]? = v) (hne : k ≠ j) : (h.set k c)[j]? = v := by
  rw [List.getElem?_set_ne hne]; exact e
/-- nothing but what S names has changed -/
def zFr (S : Nat → Prop) (h h' : List zC) : Prop := h'.length = h.length ∧ ∀ j, ¬ S j → h'[j]? = h[j]?
theorem zFr.rf {S : Nat → Prop} {h : List zC} : zFr S h h := ⟨rfl, fun _ _ => rfl⟩
theorem zFr.tr {S : Nat → Prop} {h h1 h2 : List zC} (a : zFr S h h1) (b : zFr S h1 h2) : zFr S h h2 := ⟨b.1.trans a.1, fun j hj => (b.2 j hj).trans (a.2 j hj)⟩
theorem zFr.mono {S T : Nat → Prop} {h h1 : List zC} (a : zFr S h h1) (hST : ∀ j, S j → T j) : zFr T h h1 := ⟨a.1, fun j hj => a.2 j (fun h => hj (hST j h))⟩
theorem zFr.set {S : Nat → Prop} {h : List zC} {k : Nat} {c : zC} (hk : S k) : zFr S h (h.set k c) := ⟨List.length_set, fun j hj => zset_ne rfl (fun e => hj (e ▸ hk))⟩
theorem zFr.at {S : Nat → Prop} {h h1 : List zC} (a : zFr S h h1) {j : Nat} {v : Option zC} (e : h[j]? = v) (hj : ¬ S j) : h1[j]? = v := (a.2 j hj).trans e
theorem zSt.fr {h h' : List zC} {k : Nat} {a : Nat → Int32} (hS : zSt h k a) (hf : ∀ j, k ≤ j → j ≤ k + 8 → h'[j]? = h[j]?) : zSt h' k a := by
  obtain ⟨h0, ⟨f1, g1, e1⟩, ⟨f2, g2, e2⟩, ⟨f3, g3, e3⟩, ⟨f4, g4, e4⟩, ⟨f5, g5, e5⟩, ⟨f6, g6, e6⟩, ⟨f7, g7, e7⟩, ⟨f8, g8, e8⟩⟩ := hS
  exact ⟨(hf _ (by omega) (by omega)).trans h0, ⟨f1, (hf _ (by omega) (by omega)).trans g1, e1⟩, ⟨f2, (hf _ (by omega) (by omega)).trans g2, e2⟩, ⟨f3, (hf _ (by omega) (by omega)).trans g3, e3⟩, ⟨f4, (hf _ (by omega) (by omega)).trans g4, e4⟩, ⟨f5, (hf _ (by omega) (by omega)).trans g5, e5⟩, ⟨f6, (hf _ (by omega) (by omega)).trans g6, e6⟩, ⟨f7, (hf _ (by omega) (by omega)).trans g7, e7⟩, ⟨f8, (hf _ (by omega) (by omega)).trans g8, e8⟩⟩
def zLo (h : List zC) (y : Nat) (cf sf lf : Nat → Int32) (t : Int32) : Prop := h[y]? = some (zob 1 [.ref (y + 1), .ref (y + 2), .ref (y + 3), .int t]) ∧ h[y + 1]? = some (zar .int 41 cf) ∧ h[y + 2]? = some (zar .int 123 sf) ∧ h[y + 3]? = some (zar .int 12 lf)
def zSw (h : List zC) (ln dr : Nat → Int32) : Prop := h[77]? = some (zob 4 [.ref 78, .ref 79]) ∧ h[78]? = some (zar .int 492 ln) ∧ h[79]? = some (zar .int 492 dr)
theorem zLo.fr {h h' : List zC} {y : Nat} {cf sf lf : Nat → Int32} {t : Int32} (hL : zLo h y cf sf lf t) (hf : ∀ j, y ≤ j → j ≤ y + 3 → h'[j]? = h[j]?) : zLo h' y cf sf lf t :=
  ⟨(hf _ (by omega) (by omega)).trans hL.1, (hf _ (by omega) (by omega)).trans hL.2.1, (hf _ (by omega) (by omega)).trans hL.2.2.1, (hf _ (by omega) (by omega)).trans hL.2.2.2⟩
theorem zSw.fr {h h' : List zC} {ln dr : Nat → Int32} (hL : zSw h ln dr) (hf : ∀ j, 77 ≤ j → j ≤ 79 → h'[j]? = h[j]?) : zSw h' ln dr :=
  ⟨(hf _ (by omega) (by omega)).trans hL.1, (hf _ (by omega) (by omega)).trans hL.2.1, (hf _ (by omega) (by omega)).trans hL.2.2⟩
theorem upd_s (f : Nat → Int32) (k : Nat) (x : Int32) : upd f k x k = x := by simp [upd]
theorem upd_n {f : Nat → Int32} {k j : Nat} {x : Int32} (h : j ≠ k) : upd f k x j = f j := by simp [upd, h]
section ZC
variable {h : List zC} {z : Nat × (Nat × (Nat → Int32))} {k : Nat} {a : Nat → Int32} {Q : Option Value → zX → Prop}
theorem l_Ja_fill {b n : Nat} {v : Int32} (hn : n < 2 ^ 31) : ∀ (j i : Nat) (h : List zC) (f : Nat → Int32), i + j = n → h[b]? = some (zar .int n f) → (∀ q, q < i → f q = v) → (∀ g : Nat → Int32, (∀ q, q < n → g q = v) → Q none (h.set b (zar .int n g), z)) → Ev 62 5 [.ref b, .int v, .int (nI i), .int (nI n)] [] (h, z) Q := by
  intro j
  induction j with
  | zero =>
    intro i h f hi hb hf hQ
    have hi : i = n := by omega
    subst hi
    have e1 : nI i ≤ nI i := Int32.le_refl _
    have := hQ f hf
    have e2 : h.set b (zar .int i f) = h := by
      obtain ⟨hl, he⟩ := List.getElem?_eq_some_iff.mp hb
      rw [← he]
      exact List.set_getElem_self hl
    rw [e2] at this
    simp only [e62_0, e62_1, e62_2, e62_3, e62_4, e62_5, e62_6, e62_7, e62_10, e62_11, e62_12, e62_13, e62_14, e62_17, e62_20, zgF, zgA, zgR, zisO, zpush, zopt_some, ↓reduceIte, List.getElem?_cons_succ, List.getElem?_cons_zero, beq_self_eq_true, true_and, and_true, Bool.true_and, Bool.and_true, Bool.false_and, Bool.and_false, nI_1, not_true_eq_false, not_false_eq_true, vp_narI, e1]
    exact this
  | succ j ih =>
    intro i h f hi hb hf hQ
    have hlt : i < n := by omega
    have e1 : ¬ nI n ≤ nI i := nI_ge hlt (by omega)
    have e3 : zinb (nI i) n = true := zinb_nI hlt hn
    have e4 : (nI i).toNatClampNeg = i := nI_clamp (by omega)
    rw [e62_5]
    simp only [e62_0, e62_1, e62_2, e62_3, e62_4, e62_6, e62_7, e62_10, e62_11, e62_12, e62_13, e62_14, e62_17, e62_20, zgF, zgA, zgR, zisO, zpush, zopt_some, ↓reduceIte, List.getElem?_cons_succ, List.getElem?_cons_zero, beq_self_eq_true, true_and, and_true, Bool.true_and, Bool.and_true, Bool.false_and, Bool.and_false, nI_1, not_true_eq_false, not_false_eq_true, vp_narI, hb, e1, e3, e4]
    refine ih (i + 1) _ (upd f i v) (by omega) (zset_self hb) (fun q hq => ?_) (fun g hg => ?_)
    · by_cases h : q = i
      · subst h; exact upd_s _ _ _
      · rw [upd_n h]; exact hf q (by omega)
    · rw [List.set_set]
      exact hQ g hg
theorem c_Ja_fill {b n : Nat} {v : Int32} {f : Nat → Int32} (hn : n < 2 ^ 31) (hb : h[b]? = some (zar .int n f)) (hQ : ∀ g : Nat → Int32, (∀ q, q < n → g q = v) → Q none (h.set b (zar .int n g), z)) : Ev 62 0 [.ref b, .int v, zU, zU] [] (h, z) Q := by
  have := l_Ja_fill (Q := Q) (z := z) (b := b) (v := v) hn n 0 h f (by omega) hb (fun q hq => absurd hq (by omega)) hQ
  simp only [e62_0, e62_1, e62_2, e62_3, e62_4, e62_6, e62_7, e62_10, e62_11, e62_12, e62_13, e62_14, e62_17, e62_20, zgF, zgA, zgR, zisO, zpush, zopt_some, ↓reduceIte, List.getElem?_cons_succ, List.getElem?_cons_zero, beq_self_eq_true, true_and, and_true, Bool.true_and, Bool.and_true, Bool.false_and, Bool.and_false, nI_1, not_true_eq_false, not_false_eq_true, vp_narI, hb]
  exact this
theorem c_Y_clear {y : Nat} {cf sf lf : Nat → Int32} {t : Int32} (hL : zLo h y cf sf lf t) (hQ : ∀ (h' : List zC) (cf' lf' : Nat → Int32), zFr (fun j => y ≤ j ∧ j ≤ y + 3) h h' → zLo h' y cf' sf lf' 0 → (∀ i, i < 41 → cf' i = 0) → (∀ i, i < 12 → lf' i = 0) → Q none (h', z)) : Ev 5 0 [.ref y] [] (h, z) Q := by
  obtain ⟨h0, h1, h2, h3⟩ := hL
  simp only [e5_0, e5_1, e5_4, e5_5, e5_8, e5_9, e5_12, e5_13, e5_16, e5_17, e5_18, e5_21, zgF, zgA, zgR, zisO, zpush, zopt_some, ↓reduceIte, List.getElem?_cons_succ, List.getElem?_cons_zero, beq_self_eq_true, true_and, and_true, Bool.true_and, Bool.and_true, Bool.false_and, Bool.and_false, nI_1, not_true_eq_false, not_false_eq_true, vp_narI, h0]
  refine c_Ja_fill (by decide) h1 (fun cf' hc => ?_)
  have k0 := zset_ne (k := y + 1) (c := zar .int 41 cf') h0 (by omega)
  have k1 := zset_self (c := zar .int 41 cf') h1
  have k2 := zset_ne (k := y + 1) (c := zar .int 41 cf') h2 (by omega)
  have k3 := zset_ne (k := y + 1) (c := zar .int 41 cf') h3 (by omega)
  have f1 : zFr (fun j => y ≤ j ∧ j ≤ y + 3) h (h.set (y + 1) (zar .int 41 cf')) := zFr.set ⟨by omega, by omega⟩
  generalize h.set (y + 1) (zar .int 41 cf') = g1 at k0 k1 k2 k3 f1 ⊢
  simp only [e5_0, e5_1, e5_4, e5_5, e5_8, e5_9, e5_12, e5_13, e5_16, e5_17, e5_18, e5_21, zgF, zgA, zgR, zisO, zpush, zopt_some, ↓reduceIte, List.getElem?_cons_succ, List.getElem?_cons_zero, beq_self_eq_true, true_and, and_true, Bool.true_and, Bool.and_true, Bool.false_and, Bool.and_false, nI_1, not_true_eq_false, not_false_eq_true, vp_narI, k0]
  refine c_Ja_fill (by decide) k3 (fun lf' hl => ?_)
  have m0 := zset_ne (k := y + 3) (c := zar .int 12 lf') k0 (by omega)
  have m1 := zset_ne (k := y + 3) (c := zar .int 12 lf') k1 (by omega)
  have m2 := zset_ne (k := y + 3) (c := zar .int 12 lf') k2 (by omega)
  have m3 := zset_self (c := zar .int 12 lf') k3
  have f2 : zFr (fun j => y ≤ j ∧ j ≤ y + 3) g1 (g1.set (y + 3) (zar .int 12 lf')) := zFr.set ⟨by omega, by omega⟩
  generalize g1.set (y + 3) (zar .int 12 lf') = g2 at m0 m1 m2 m3 f2 ⊢
  simp only [e5_0, e5_1, e5_4, e5_5, e5_8, e5_9, e5_12, e5_13, e5_16, e5_17, e5_18, e5_21, zgF, zgA, zgR, zisO, zpush, zopt_some, ↓reduceIte, List.getElem?_cons_succ, List.getElem?_cons_zero, beq_self_eq_true, true_and, and_true, Bool.true_and, Bool.and_true, Bool.false_and, Bool.and_false, nI_1, not_true_eq_false, not_false_eq_true, vp_narI, zpF, m0, List.length_cons, List.length_nil]
  simp only [Nat.reduceAdd, Nat.reduceLT, and_self, ↓reduceIte, zopt_some, e5_0, e5_1, e5_4, e5_5, e5_8, e5_9, e5_12, e5_13, e5_16, e5_17, e5_18, e5_21]
  exact hQ _ cf' lf' ((f1.tr f2).tr (zFr.set ⟨by omega, by omega⟩)) ⟨zset_self m0, zset_ne m1 (by omega), zset_ne m2 (by omega), zset_ne m3 (by omega)⟩ hc hl
theorem c_Y_add {y r s q : Nat} {cf sf lf : Nat → Int32} {t : Int32} (hL : zLo h y cf sf lf t) (hr : r < 41) (hs : s < 12) (hc : cf r = nI q) (hq : q < 3)
    (hQ : ∀ h' : List zC, zFr (fun j => y ≤ j ∧ j ≤ y + 3) h h' → zLo h' y (upd cf r (nI (q + 1))) (upd sf (3 * r + q) (nI s)) (upd lf s (lf s + 1)) (t + 1) → Q none (h', z)) : Ev 6 0 [.ref y, .int (nI r), .int (nI s)] [] (h, z) Q := by
  obtain ⟨h0, h1, h2, h3⟩ := hL
  have e1 : zinb (nI r) 41 = true := zinb_nI hr (by decide)
  have e2 : (nI r).toNatClampNeg = r := nI_clamp (by omega)
  have e3 : nI q < nI 3 := nI_lt hq (by omega)
  have e4 : zinb (nI (r * 3 + q)) 123 = true := zinb_nI (by omega) (by decide)
  have e5 : (nI (r * 3 + q)).toNatClampNeg = 3 * r + q := by rw [nI_clamp (by omega)]; omega
  have e6 : zinb (nI s) 12 = true := zinb_nI hs (by decide)
  have e7 : (nI s).toNatClampNeg = s := nI_clamp (by omega)
  simp only [e6_0, e6_1, e6_4, e6_5, e6_6, e6_7, e6_10, e6_11, e6_12, e6_15, e6_16, e6_17, e6_18, e6_19, e6_22, e6_23, e6_24, e6_25, e6_26, e6_27, e6_28, e6_31, e6_32, e6_33, e6_34, e6_35, e6_36, e6_37, e6_38, e6_41, e6_42, e6_43, e6_44, e6_45, e6_46, e6_47, e6_48, e6_49, e6_52, e6_53, e6_54, e6_57, zgF, zgA, zgR, zisO, zpush, zopt_some, ↓reduceIte, List.getElem?_cons_succ, List.getElem?_cons_zero, beq_self_eq_true, true_and, and_true, Bool.true_and, Bool.and_true, Bool.false_and, Bool.and_false, nI_1, not_true_eq_false, not_false_eq_true, vp_narI, h0, h1, h2, e1, e2, hc, zc3, e3, pk_mul, nI_add, e4, e5]
  have k0 := zset_ne (k := y + 2) (c := zar .int 123 (upd sf (3 * r + q) (nI s))) h0 (by omega)
  have k1 := zset_ne (k := y + 2) (c := zar .int 123 (upd sf (3 * r + q) (nI s))) h1 (by omega)
  have k2 := zset_self (c := zar .int 123 (upd sf (3 * r + q) (nI s))) h2
  have k3 := zset_ne (k := y + 2) (c := zar .int 123 (upd sf (3 * r + q) (nI s))) h3 (by omega)
  have f1 : zFr (fun j => y ≤ j ∧ j ≤ y + 3) h (h.set (y + 2) (zar .int 123 (upd sf (3 * r + q) (nI s)))) := zFr.set ⟨by omega, by omega⟩
  generalize h.set (y + 2) (zar .int 123 (upd sf (3 * r + q) (nI s))) = g1 at k0 k1 k2 k3 f1 ⊢
  simp only [e6_0, e6_1, e6_4, e6_5, e6_6, e6_7, e6_10, e6_11, e6_12, e6_15, e6_16, e6_17, e6_18, e6_19, e6_22, e6_23, e6_24, e6_25, e6_26, e6_27, e6_28, e6_31, e6_32, e6_33, e6_34, e6_35, e6_36, e6_37, e6_38, e6_41, e6_42, e6_43, e6_44, e6_45, e6_46, e6_47, e6_48, e6_49, e6_52, e6_53, e6_54, e6_57, zgF, zgA, zgR, zisO, zpush, zopt_some, ↓reduceIte, List.getElem?_cons_succ, List.getElem?_cons_zero, beq_self_eq_true, true_and, and_true, Bool.true_and, Bool.and_true, Bool.false_and, Bool.and_false, nI_1, not_true_eq_false, not_false_eq_true, vp_narI, k0, k1, e1, e2, hc]
  have m0 := zset_ne (k := y + 1) (c := zar .int 41 (upd cf r (nI (q + 1)))) k0 (by omega)
  have m1 := zset_self (c := zar .int 41 (upd cf r (nI (q + 1)))) k1
  have m2 := zset_ne (k := y + 1) (c := zar .int 41 (upd cf r (nI (q + 1)))) k2 (by omega)
  have m3 := zset_ne (k := y + 1) (c := zar .int 41 (upd cf r (nI (q + 1)))) k3 (by omega)
  have f2 : zFr (fun j => y ≤ j ∧ j ≤ y + 3) g1 (g1.set (y + 1) (zar .int 41 (upd cf r (nI (q + 1))))) := zFr.set ⟨by omega, by omega⟩
  generalize g1.set (y + 1) (zar .int 41 (upd cf r (nI (q + 1)))) = g2 at m0 m1 m2 m3 f2 ⊢
  simp only [e6_0, e6_1, e6_4, e6_5, e6_6, e6_7, e6_10, e6_11, e6_12, e6_15, e6_16, e6_17, e6_18, e6_19, e6_22, e6_23, e6_24, e6_25, e6_26, e6_27, e6_28, e6_31, e6_32, e6_33, e6_34, e6_35, e6_36, e6_37, e6_38, e6_41, e6_42, e6_43, e6_44, e6_45, e6_46, e6_47, e6_48, e6_49, e6_52, e6_53, e6_54, e6_57, zgF, zgA, zgR, zisO, zpush, zopt_some, ↓reduceIte, List.getElem?_cons_succ, List.getElem?_cons_zero, beq_self_eq_true, true_and, and_true, Bool.true_and, Bool.and_true, Bool.false_and, Bool.and_false, nI_1, not_true_eq_false, not_false_eq_true, vp_narI, m0, m3, e6, e7]
  have p0 := zset_ne (k := y + 3) (c := zar .int 12 (upd lf s (lf s + 1))) m0 (by omega)
  have p1 := zset_ne (k := y + 3) (c := zar .int 12 (upd lf s (lf s + 1))) m1 (by omega)
  have p2 := zset_ne (k := y + 3) (c := zar .int 12 (upd lf s (lf s + 1))) m2 (by omega)
  have p3 := zset_self (c := zar .int 12 (upd lf s (lf s + 1))) m3
  have f3 : zFr (fun j => y ≤ j ∧ j ≤ y + 3) g2 (g2.set (y + 3) (zar .int 12 (upd lf s (lf s + 1)))) := zFr.set ⟨by omega, by omega⟩
  generalize g2.set (y + 3) (zar .int 12 (upd lf s (lf s + 1))) = g3 at p0 p1 p2 p3 f3 ⊢
  simp only [e6_0, e6_1, e6_4, e6_5, e6_6, e6_7, e6_10, e6_11, e6_12, e6_15, e6_16, e6_17, e6_18, e6_19, e6_22, e6_23, e6_24, e6_25, e6_26, e6_27, e6_28, e6_31, e6_32, e6_33, e6_34, e6_35, e6_36, e6_37, e6_38, e6_41, e6_42, e6_43, e6_44, e6_45, e6_46, e6_47, e6_48, e6_49, e6_52, e6_53, e6_54, e6_57, zgF, zgA, zgR, zisO, zpush, zopt_some, ↓reduceIte, List.getElem?_cons_succ, List.getElem?_cons_zero, beq_self_eq_true, true_and, and_true, Bool.true_and, Bool.and_true, Bool.false_and, Bool.and_false, nI_1, not_true_eq_false, not_false_eq_true, vp_narI, zpF, p0, List.length_cons, List.length_nil]
  simp only [Nat.reduceAdd, Nat.reduceLT, and_self, ↓reduceIte, zopt_some, e6_0, e6_1, e6_4, e6_5, e6_6, e6_7, e6_10, e6_11, e6_12, e6_15, e6_16, e6_17, e6_18, e6_19, e6_22, e6_23, e6_24, e6_25, e6_26, e6_27, e6_28, e6_31, e6_32, e6_33, e6_34, e6_35, e6_36, e6_37, e6_38, e6_41, e6_42, e6_43, e6_44, e6_45, e6_46, e6_47, e6_48, e6_49, e6_52, e6_53, e6_54, e6_57]
  exact hQ _ (((f1.tr f2).tr f3).tr (zFr.set ⟨by omega, by omega⟩)) ⟨zset_self p0, zset_ne p1 (by omega), zset_ne p2 (by omega), zset_ne p3 (by omega)⟩
end ZC
end
