/-! characters come into the pad -/
section
set_option maxRecDepth 100000
theorem chr_c : ∀ m, m < 256 → vp_nar .char ((lN m).toInt32.toUInt32 % 65536).toInt32 = nI m := by decide +kernel
theorem znl_3 {v w : Value} {t : List Value} : znl (v :: w :: zU :: t) 3 = true := rfl
/-- the pad with n characters more -/
def apF (x : Int64) (l n i : Nat) (f : Nat → Int32) : Nat → Int32 := fun q => if l + n - i ≤ q ∧ q < l + n then nI (xN x / 256 ^ (l + n - 1 - q) % 256) else f q
def clN (x : Int64) : Nat := (cls (xN x) 8 0).toNatClampNeg
/-- what put answers, and leaves -/
def ptA (x : Int64) (l : Nat) : Int32 := if cls (xN x) 8 0 < 0 then -2 else if 60 < l + clN x then -4 else nI (l + clN x)
def ptL (x : Int64) (l : Nat) : Nat := if cls (xN x) 8 0 < 0 ∨ 60 < l + clN x then l else l + clN x
def ptF (x : Int64) (l : Nat) (f : Nat → Int32) : Nat → Int32 := if cls (xN x) 8 0 < 0 ∨ 60 < l + clN x then f else apF x l (clN x) (clN x) f
theorem apF_0 (x : Int64) (l n : Nat) (f : Nat → Int32) : apF x l n 0 f = f := by
  funext q
  unfold apF
  rw [if_neg (by omega)]
theorem apF_s (x : Int64) {l n i : Nat} (f : Nat → Int32) (hi : i < n) : upd (apF x l n i f) (l + n - 1 - i) (nI (xN x / 256 ^ i % 256)) = apF x l n (i + 1) f := by
  funext q
  by_cases e : q = l + n - 1 - i
  · subst e
    rw [upd_s]
    unfold apF
    rw [if_pos (by omega), show l + n - 1 - (l + n - 1 - i) = i by omega]
  · rw [upd_n e]
    unfold apF
    by_cases h : l + n - i ≤ q ∧ q < l + n
    · rw [if_pos h, if_pos (by omega)]
    · rw [if_neg h, if_neg (by omega)]
section ZC
variable {h : List zC} {z : Nat × (Nat × (Nat → Int32))} {Q : Option Value → zX → Prop} {l : Nat} {f : Nat → Int32}
theorem l_P_append {x : Int64} {n p : Nat} {kd fi se : Int32} (hl : l + n ≤ 60) (hn : n ≤ 8) (hQ : ∀ h' : List zC, zFr (fun j => 80 ≤ j ∧ j ≤ 81) h h' → zPx h' (l + n) p kd fi se (apF x l n n f) → Q none (h', z)) :
    ∀ (j i : Nat) (h' : List zC), i + j = n → zFr (fun j => 80 ≤ j ∧ j ≤ 81) h h' → zPx h' l p kd fi se (apF x l n i f) → Ev 13 3 [.ref 80, .long x, zU, .int (nI n), .int (nI i)] [] (h', z) Q := by
  intro j
  induction j with
  | zero =>
    intro i h' hi hF hP
    have hi : i = n := by omega
    subst hi
    obtain ⟨x0, x1⟩ := id hP
    have e0 : nI i ≤ nI i := Int32.le_refl _
    rw [e13_3]
    simp only [e13_0, e13_1, e13_5, e13_6, e13_9, e13_10, e13_13, e13_14, e13_17, e13_18, e13_19, e13_20, e13_21, e13_23, e13_24, e13_25, e13_27, e13_29, e13_30, e13_31, e13_34, e13_35, e13_36, e13_37, e13_38, e13_41, e13_44, e13_45, e13_46, e13_49, e13_50, e13_51, e13_54, zgF, zgA, zgR, zisO, zpush, zopt_some, ↓reduceIte, List.getElem?_cons_succ, List.getElem?_cons_zero, beq_self_eq_true, true_and, and_true, Bool.true_and, Bool.and_true, Bool.false_and, Bool.and_false, nI_1, not_true_eq_false, not_false_eq_true, vp_narI, e0, x0, nI_add, zpF, List.length_cons, List.length_nil, Nat.reduceAdd, Nat.reduceLT, and_self, List.set_cons_succ, List.set_cons_zero]
    exact hQ _ (hF.tr (zFr.set (by omega))) ⟨zset_self x0, zset_ne x1 (by decide)⟩
  | succ j ih =>
    intro i h' hi hF hP
    obtain ⟨x0, x1⟩ := id hP
    have e0 : ¬ nI n ≤ nI i := nI_ge (by omega) (by omega)
    have e1 : nI (l + n) - 1 - nI i = nI (l + n - 1 - i) := by
      rw [show l + n = (l + n - 1) + 1 by omega, nI_pred, Nat.add_sub_cancel, show l + n - 1 = (l + n - 1 - i) + i by omega, ← nI_add, Int32.add_sub_cancel, Nat.add_sub_cancel]
    have e2 : zinb (nI (l + n - 1 - i)) 60 = true := zinb_nI (by omega) (by decide)
    have e3 : (nI (l + n - 1 - i)).toNatClampNeg = l + n - 1 - i := nI_clamp (by omega)
    have e4 : ((8 : Int32) * nI i) = nI (8 * i) := by rw [show (8 : Int32) = nI 8 from rfl, pk_mul]
    have e5 : (x.toUInt64 >>> ((nI (8 * i)).toInt64.toUInt64 &&& Int64.toUInt64 63)).toInt64 &&& 255 = lN (xN x / 256 ^ i % 256) := shw_and x (by omega)
    have e6 := chr_c (xN x / 256 ^ i % 256) (Nat.mod_lt _ (by decide))
    rw [e13_3]
    simp only [e13_0, e13_1, e13_5, e13_6, e13_9, e13_10, e13_13, e13_14, e13_17, e13_18, e13_19, e13_20, e13_21, e13_23, e13_24, e13_25, e13_27, e13_29, e13_30, e13_31, e13_34, e13_35, e13_36, e13_37, e13_38, e13_41, e13_44, e13_45, e13_46, e13_49, e13_50, e13_51, e13_54, zgF, zgA, zgR, zisO, zpush, zopt_some, ↓reduceIte, List.getElem?_cons_succ, List.getElem?_cons_zero, beq_self_eq_true, true_and, and_true, Bool.true_and, Bool.and_true, Bool.false_and, Bool.and_false, nI_1, not_true_eq_false, not_false_eq_true, vp_narI, e0, x0, x1, nI_add, e1, e2, e3, e4, e5, e6]
    rw [apF_s x f (by omega)]
    exact ih (i + 1) _ (by omega) (hF.tr (zFr.set (by omega))) ⟨zset_ne x0 (by decide), zset_self x1⟩
theorem c_P_append {x : Int64} {n p : Nat} {kd fi se : Int32} (hl : l + n ≤ 60) (hn : n ≤ 8) (hP : zPx h l p kd fi se f) (hQ : ∀ h' : List zC, zFr (fun j => 80 ≤ j ∧ j ≤ 81) h h' → zPx h' (l + n) p kd fi se (apF x l n n f) → Q none (h', z)) :
    Ev 13 0 [.ref 80, .long x, zU, .int (nI n), zU] [] (h, z) Q := by
  have := l_P_append (h := h) (x := x) (f := f) hl hn hQ n 0 h (by omega) zFr.rf (by rw [apF_0]; exact hP)
  simp only [e13_0, e13_1, e13_5, e13_6, e13_9, e13_10, e13_13, e13_14, e13_17, e13_18, e13_19, e13_20, e13_21, e13_23, e13_24, e13_25, e13_27, e13_29, e13_30, e13_31, e13_34, e13_35, e13_36, e13_37, e13_38, e13_41, e13_44, e13_45, e13_46, e13_49, e13_50, e13_51, e13_54, zgF, zgA, zgR, zisO, zpush, zopt_some, ↓reduceIte, List.getElem?_cons_succ, List.getElem?_cons_zero, beq_self_eq_true, true_and, and_true, Bool.true_and, Bool.and_true, Bool.false_and, Bool.and_false, nI_1, not_true_eq_false, not_false_eq_true, vp_narI]
  exact this
end ZC
section ZC
variable {h : List zC} {z : Nat × (Nat × (Nat → Int32))} {a : Nat → Int32} {Q : Option Value → zX → Prop} {n l : Nat} {H S : Nat → Nat → Int32} {sv f : Nat → Int32}
theorem zCl.pad2 {h' : List zC} (hK : zCl h a n H sv S l f) (hF : zFr (fun j => 80 ≤ j ∧ j ≤ 81) h h') {l' : Nat} {f' : Nat → Int32} (hP : zPd h' l' f') : zCl h' a n H sv S l' f' := by
  obtain ⟨⟨P, T, hK⟩, hH, hL, -⟩ := hK
  exact ⟨⟨P, T, hK.fr (fun j hj => hF.2 j (by unfold zWr at hj; omega))⟩, hH.fr (fun j x1 x2 => hF.2 j (by omega)), hL.fr (fun j hj => hF.2 j (by omega)), hP⟩
theorem cls_n {x : Int64} (h : ¬ cls (xN x) 8 0 < 0) : 1 ≤ clN x ∧ clN x ≤ 8 ∧ cls (xN x) 8 0 = nI (clN x) ∧ ∀ j, j < clN x → 33 ≤ xN x / 256 ^ j % 256 ∧ xN x / 256 ^ j % 256 < 127 := by
  rcases cls_ok (xN x) 8 0 (by omega) (fun j hj => absurd hj (by omega)) with e | ⟨m, h1, h2, h3, h4⟩
  · exact absurd (e ▸ (by decide : (-2 : Int32) < 0)) h
  · have : clN x = m := by unfold clN; rw [h3]; exact nI_clamp (by omega)
    rw [this]; exact ⟨h1, h2, h3, h4⟩
theorem cls_2 {x : Int64} (h : cls (xN x) 8 0 < 0) : cls (xN x) 8 0 = -2 := by
  rcases cls_ok (xN x) 8 0 (by omega) (fun j hj => absurd hj (by omega)) with e | ⟨m, h1, h2, h3, h4⟩
  · exact e
  · rw [h3] at h; exact absurd h (nI_pos (by omega))
theorem c_D_put {x : Int64} (hK : zCl h a n H sv S l f) (hQ : ∀ h' : List zC, zFr (fun j => j < 108) h h' → zCl h' a n H sv S (ptL x l) (ptF x l f) → Q (some (.int (ptA x l))) (h', z)) : Ev 57 0 [.ref 0, .long x, zU, zU] [] (h, z) Q := by
  obtain ⟨⟨P, T, hK'⟩, -, -, hP⟩ := id hK
  have D0 : h[0]? = some (zob 5 [.ref 1, .ref 10, .ref 75, .ref 76, .ref 77, .ref 80, .ref P, .ref T]) := hK'.1.2.1
  obtain ⟨⟨p, kd, fi, se, hX⟩, hl, hc⟩ := hP.x
  have x0 := hX.1
  unfold ptA ptL ptF at hQ
  by_cases h1 : cls (xN x) 8 0 < 0
  · have e1 : ¬ (0 : Int32) ≤ cls (xN x) 8 0 := Int32.not_le.mpr h1
    simp only [h1, ↓reduceIte, true_or] at hQ
    simp only [e57_0, e57_1, e57_5, e57_6, e57_9, e57_10, e57_11, e57_12, e57_15, e57_18, e57_19, e57_20, e57_22, e57_25, e57_27, e57_28, e57_29, e57_32, e57_33, e57_34, e57_37, e57_38, e57_41, e57_44, e57_4 znl_3, zgF, zgA, zgR, zisO, zpush, zopt_some, ↓reduceIte, List.getElem?_cons_succ, List.getElem?_cons_zero, beq_self_eq_true, true_and, and_true, Bool.true_and, Bool.and_true, Bool.false_and, Bool.and_false, nI_1, not_true_eq_false, not_false_eq_true, vp_narI, c_P_signsIn, e1, cls_2 h1, (show ¬ (0 : Int32) ≤ -2 by decide)]
    exact hQ h zFr.rf hK
  · obtain ⟨q1, q2, q3, q4⟩ := cls_n h1
    have e1 : (0 : Int32) ≤ cls (xN x) 8 0 := Int32.not_lt.mp h1
    rw [q3] at e1
    simp only [h1, ↓reduceIte, false_or] at hQ
    by_cases h2 : 60 < l + clN x
    · have e2 : ¬ nI (l + clN x) ≤ 60 := nI_ge (a := 60) h2 (by omega)
      simp only [h2, ↓reduceIte] at hQ
      simp only [e57_0, e57_1, e57_5, e57_6, e57_9, e57_10, e57_11, e57_12, e57_15, e57_18, e57_19, e57_20, e57_22, e57_25, e57_27, e57_28, e57_29, e57_32, e57_33, e57_34, e57_37, e57_38, e57_41, e57_44, e57_4 znl_3, zgF, zgA, zgR, zisO, zpush, zopt_some, ↓reduceIte, List.getElem?_cons_succ, List.getElem?_cons_zero, beq_self_eq_true, true_and, and_true, Bool.true_and, Bool.and_true, Bool.false_and, Bool.and_false, nI_1, not_true_eq_false, not_false_eq_true, vp_narI, c_P_signsIn, q3, e1, e2, D0, x0, nI_add]
      exact hQ h zFr.rf hK
    · have e2 : nI (l + clN x) ≤ 60 := nI_le (b := 60) (by omega) (by decide)
      simp only [h2, ↓reduceIte] at hQ
      simp only [e57_0, e57_1, e57_5, e57_6, e57_9, e57_10, e57_11, e57_12, e57_15, e57_18, e57_19, e57_20, e57_22, e57_25, e57_27, e57_28, e57_29, e57_32, e57_33, e57_34, e57_37, e57_38, e57_41, e57_44, e57_4 znl_3, zgF, zgA, zgR, zisO, zpush, zopt_some, ↓reduceIte, List.getElem?_cons_succ, List.getElem?_cons_zero, beq_self_eq_true, true_and, and_true, Bool.true_and, Bool.and_true, Bool.false_and, Bool.and_false, nI_1, not_true_eq_false, not_false_eq_true, vp_narI, c_P_signsIn, q3, e1, e2, D0, x0, nI_add]
      refine c_P_append (by omega) q2 hX (fun h' F' X' => ?_)
      have D1 : h'[0]? = some (zob 5 [.ref 1, .ref 10, .ref 75, .ref 76, .ref 77, .ref 80, .ref P, .ref T]) := (F'.2 0 (by omega)).trans D0
      have y0 := X'.1
      simp only [e57_0, e57_1, e57_5, e57_6, e57_9, e57_10, e57_11, e57_12, e57_15, e57_18, e57_19, e57_20, e57_22, e57_25, e57_27, e57_28, e57_29, e57_32, e57_33, e57_34, e57_37, e57_38, e57_41, e57_44, e57_4 znl_3, zgF, zgA, zgR, zisO, zpush, zopt_some, ↓reduceIte, List.getElem?_cons_succ, List.getElem?_cons_zero, beq_self_eq_true, true_and, and_true, Bool.true_and, Bool.and_true, Bool.false_and, Bool.and_false, nI_1, not_true_eq_false, not_false_eq_true, vp_narI, D1, y0]
      refine hQ h' (F'.mono (fun j hj => by omega)) (hK.pad2 F' ⟨⟨_, _, _, _, X'.1⟩, X'.2, by omega, fun i hi => ?_⟩)
      unfold apF
      by_cases h3 : l + clN x - clN x ≤ i ∧ i < l + clN x
      · rw [if_pos h3]
        have := q4 (l + clN x - 1 - i) (by omega)
        exact ⟨_, this.1, this.2, rfl⟩
      · rw [if_neg h3]
        exact hP.2.2.2 i (by omega)
end ZC
end
