/-! the moves of a change: whose they are, in which order -/
section
set_option maxRecDepth 100000
/-- objects in ascending order -/
def asc (a : Nat → Int32) : Prop := ∀ p q, p < q → q < gN a 3 → gN a (41 + p) < gN a (41 + q)
/-- of moves: column w has the server s alone, objects come in order -/
def Mv (r : Nat → Int32) (s w : Nat) : Prop := (∀ i, i < gN r 4 → (r (121 + 3 * i + w) = nI s ∨ r (121 + 3 * i + w) = -6)) ∧ (∀ p q, p ≤ q → q < gN r 4 → r (121 + 3 * p) ≤ r (121 + 3 * q))
theorem addM_old {a : Nat → Int32} {o f t : Int32} {i w : Nat} (hi : i < gN a 4) (hw : w ≤ 2) : addM a o f t (121 + 3 * i + w) = a (121 + 3 * i + w) := by
  rw [addM_at, if_neg (by omega), if_neg (by omega), if_neg (by omega), if_neg (by omega)]
theorem addM_0 {a : Nat → Int32} {o f t : Int32} : addM a o f t (121 + 3 * gN a 4) = o := by
  rw [addM_at, if_neg (by omega), if_pos rfl]
theorem addM_1 {a : Nat → Int32} {o f t : Int32} : addM a o f t (121 + 3 * gN a 4 + 1) = f := by
  rw [addM_at, if_neg (by omega), if_neg (by omega), if_pos (by omega)]
theorem addM_2 {a : Nat → Int32} {o f t : Int32} : addM a o f t (121 + 3 * gN a 4 + 2) = t := by
  rw [addM_at, if_neg (by omega), if_neg (by omega), if_neg (by omega), if_pos (by omega)]
theorem amv_mv {o lost got : Int32} {s w : Nat} (hw : (w = 1 ∧ ∀ i, i < 3 → (nthS lost i = nI s ∨ nthS lost i = -6)) ∨ (w = 2 ∧ ∀ i, i < 3 → (nthS got i = nI s ∨ nthS got i = -6))) : ∀ (j i : Nat) (r : Nat → Int32), i + j = 3 → zG r → Mv r s w → (∀ i, i < gN r 4 → r (121 + 3 * i) ≤ o) →
    Mv (amv o lost got j i r) s w ∧ (∀ k, k < gN (amv o lost got j i r) 4 → (amv o lost got j i r (121 + 3 * k) = o ∨ (k < gN r 4 ∧ amv o lost got j i r (121 + 3 * k) = r (121 + 3 * k))))
  | 0, i, r, hi, hg, hM, hU => ⟨hM, fun k hk => Or.inr ⟨hk, rfl⟩⟩
  | j + 1, i, r, hi, hg, hM, hU => by
    unfold amv
    split
    next => exact ⟨hM, fun k hk => Or.inr ⟨hk, rfl⟩⟩
    next h =>
      have hlt : gN r 4 < 120 := by
        rcases Nat.lt_or_ge (gN r 4) 120 with h' | h'
        · exact h'
        · exact absurd (Or.inr h') h
      have e4 := gN_addM (a := r) (o := o) (f := nthS lost i) (t := nthS got i) (by omega)
      have o0 := addM_0 (a := r) (o := o) (f := nthS lost i) (t := nthS got i)
      have ol := fun (k : Nat) (hk : k < gN r 4) => addM_old (a := r) (o := o) (f := nthS lost i) (t := nthS got i) (w := 0) hk (by omega)
      have M2 : Mv (addM r o (nthS lost i) (nthS got i)) s w := by
        refine ⟨fun k hk => ?_, fun p q hpq hq => ?_⟩
        · rw [e4] at hk
          by_cases e : k = gN r 4
          · subst e
            rcases hw with ⟨rfl, hw⟩ | ⟨rfl, hw⟩
            · rw [addM_1]; exact hw i (by omega)
            · rw [addM_2]; exact hw i (by omega)
          · rw [addM_old (by omega) (by rcases hw with ⟨rfl, -⟩ | ⟨rfl, -⟩ <;> omega)]
            exact hM.1 k (by omega)
        · rw [e4] at hq
          by_cases eq : q = gN r 4
          · subst eq
            rw [o0]
            by_cases ep : p = gN r 4
            · subst ep; rw [o0]; exact Int32.le_refl _
            · have := ol p (by omega)
              rw [Nat.add_zero] at this
              rw [this]
              exact hU p (by omega)
          · have h1 := ol p (by omega)
            have h2 := ol q (by omega)
            rw [Nat.add_zero] at h1 h2
            rw [h1, h2]
            exact hM.2 p q hpq (by omega)
      have := amv_mv hw j (i + 1) _ (by omega) (zG_addM hg hlt) M2 (fun k hk => by
        rw [e4] at hk
        by_cases e : k = gN r 4
        · subst e; rw [o0]; exact Int32.le_refl _
        · have h1 := ol k (by omega)
          rw [Nat.add_zero] at h1
          rw [h1]
          exact hU k (by omega))
      refine ⟨this.1, fun k hk => ?_⟩
      rcases this.2 k hk with h | ⟨h1, h2⟩
      · exact Or.inl h
      · rw [h2]
        rw [e4] at h1
        by_cases e : k = gN r 4
        · subst e; exact Or.inl o0
        · have h3 := ol k (by omega)
          rw [Nat.add_zero] at h3
          exact Or.inr ⟨by omega, h3⟩
section MV
variable {a0 a1 : Nat → Int32} {s w : Nat}
theorem mvs_mv (h1 : zG a1) (ha : asc a1) (hw : ∀ k, k < gN a1 3 → ((w = 1 ∧ ∀ i, i < 3 → (nthS (lostI a0 a1 k) i = nI s ∨ nthS (lostI a0 a1 k) i = -6)) ∨ (w = 2 ∧ ∀ i, i < 3 → (nthS (gotI a0 a1 k) i = nI s ∨ nthS (gotI a0 a1 k) i = -6)))) :
    ∀ k, k ≤ gN a1 3 → Mv (mvs a0 a1 k) s w ∧ (∀ i, i < gN (mvs a0 a1 k) 4 → ∃ q, q < k ∧ mvs a0 a1 k (121 + 3 * i) = a1 (41 + q))
  | 0, _ => by
    have e : gN (mvs a0 a1 0) 4 = 0 := by
      show gN (upd a1 4 0) 4 = 0
      unfold gN
      rw [upd_s]
      rfl
    exact ⟨⟨fun i hi => absurd hi (by omega), fun p q _ hq => absurd hq (by omega)⟩, fun i hi => absurd hi (by omega)⟩
  | k + 1, hk => by
    obtain ⟨i1, i2⟩ := mvs_mv h1 ha hw k (by omega)
    have b3 := h1.2.2.2.1.2
    have ob : ∀ q, q ≤ k → a1 (41 + q) ≤ a1 (41 + k) := fun q hq => by
      by_cases e : q = k
      · subst e; exact Int32.le_refl _
      · have g1 := (h1.2.2.2.2.2.2 q (by omega)).1
        have g2 := (h1.2.2.2.2.2.2 k (by omega)).1
        rw [g1.1, g2.1]
        exact nI_le (Nat.le_of_lt (ha q k (by omega) (by omega))) (by omega)
    have := amv_mv (o := a1 (41 + k)) (hw k (by omega)) 3 0 (mvs a0 a1 k) (by omega) (mvs_ok h1 k).1 i1 (fun i hi => by
      obtain ⟨q, q1, q2⟩ := i2 i hi
      rw [q2]
      exact ob q (by omega))
    refine ⟨this.1, fun i hi => ?_⟩
    rcases this.2 i hi with h | ⟨q1, q2⟩
    · exact ⟨k, by omega, h⟩
    · obtain ⟨q, q3, q4⟩ := i2 i q1
      exact ⟨q, by omega, q2.trans q4⟩
/-- the same objects with the same pins -/
def sam (a0 a1 : Nat → Int32) : Prop := a1 0 = a0 0 ∧ ∀ k, k < gN a1 3 → gN a1 (41 + k) = gN a0 (41 + k) ∧ a1 (81 + k) = a0 (81 + k)
theorem nth_l {l : List Nat} (hs : s < 12) (h : l = [s] ∨ l = []) : ∀ i, i < 3 → (nthS (setI l) i = nI s ∨ nthS (setI l) i = -6) := by
  intro i hi
  rcases h with rfl | rfl
  · rw [nth_one s hs i hi]
    split
    · exact Or.inl rfl
    · exact Or.inr rfl
  · exact Or.inr (nth_nil i hi)
theorem dfl_or {l m : List Nat} (hn : l.Nodup) (h : ∀ p ∈ l, p ∈ m ∨ p = s) : dfl l m = [s] ∨ dfl l m = [] := by
  rw [dfl_one hn h]
  split
  · exact Or.inl rfl
  · exact Or.inr rfl
theorem lost_eq (h0 : zG a0) (h1 : zG a1) (k : Nat) : lostI a0 a1 k = setI (dfl (plK a0 k) (plK a1 k)) := sd_eq (plK_ok h0 k).1 (plK_ok h1 k).1
theorem got_eq (h0 : zG a0) (h1 : zG a1) (k : Nat) : gotI a0 a1 k = setI (dfl (plK a1 k) (plK a0 k)) := sd_eq (plK_ok h1 k).1 (plK_ok h0 k).1
theorem sam_pl (h : sam a0 a1) {k : Nat} (hk : k < gN a1 3) : plK a1 k = plc a1 (gN a0 (41 + k)) (a0 (81 + k)) := by
  unfold plK
  rw [(h.2 k hk).1, (h.2 k hk).2]
theorem mv_up (h0 : zG a0) (h1 : zG a1) (hs : s < 12) (ha : asc a1) (e : sam a0 a1) (h : ∀ o, Rz s a0 a1 o) : Mv (fmA a0 a1) s 2 :=
  (mvs_mv h1 ha (fun k hk => Or.inr ⟨rfl, by
    rw [got_eq h0 h1, sam_pl e hk]
    exact nth_l hs (dfl_or (plc_nd _ _) ((h _).plcs h0 h1 e.1 _).1)⟩) _ (Nat.le_refl _)).1
theorem mv_dn (h0 : zG a0) (h1 : zG a1) (hs : s < 12) (ha : asc a1) (e : sam a0 a1) (h : ∀ o, Rz s a1 a0 o) : Mv (fmA a0 a1) s 1 :=
  (mvs_mv h1 ha (fun k hk => Or.inl ⟨rfl, by
    rw [lost_eq h0 h1, sam_pl e hk]
    exact nth_l hs (dfl_or (plc_nd _ _) ((h _).plcs h1 h0 e.1.symm _).1)⟩) _ (Nat.le_refl _)).1
end MV
end
