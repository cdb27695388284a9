/-! servers that weigh more, that are up, that are built: they rise -/
section
set_option maxRecDepth 100000
theorem lenA_mono (x : Nat) : ∀ (i j : Nat), i ≤ j → lenA x i ≤ lenA x j
  | i, 0, h => by
    have : i = 0 := by omega
    subst this
    exact Nat.le_refl _
  | i, j + 1, h => by
    by_cases e : i = j + 1
    · subst e; exact Nat.le_refl _
    · have := lenA_mono x i j (by omega)
      rw [lenA_s]
      exact Nat.le_trans this (Nat.le_max_left _ _)
section RO
variable {a b : Nat → Int32} {s o : Nat}
theorem tp_i : tp a s = true ↔ a (29 + s) = 0 ∧ 0 < a (17 + s) := by
  unfold tp
  simp
theorem rz_of (h1 : b 1 = a 1) (h2 : ∀ t, t ≠ s → (t < gN b 2 ↔ t < gN a 2)) (h3 : ∀ t, t ≠ s → t < gN a 2 → b (5 + t) = a (5 + t) ∧ b (17 + t) = a (17 + t) ∧ b (29 + t) = a (29 + t)) (h4 : pt a s = true → pt b s = true ∧ b (5 + s) = a (5 + s) ∧ gN a (17 + s) ≤ gN b (17 + s)) : Rz s a b o := by
  have e1 : gN b 1 = gN a 1 := by unfold gN; rw [h1]
  refine ⟨fun t ht => ?_, fun t ht hp => ?_, fun hp => ?_⟩
  · unfold pt
    by_cases hl : t < gN a 2
    · obtain ⟨-, q2, q3⟩ := h3 t ht hl
      have e : tp b t = tp a t := by unfold tp; rw [q2, q3]
      rw [e, decide_eq_true hl, decide_eq_true ((h2 t ht).mpr hl)]
    · have hl2 : ¬ t < gN b 2 := fun q => hl ((h2 t ht).mp q)
      rw [decide_eq_false hl, decide_eq_false hl2, Bool.false_and, Bool.false_and]
  · obtain ⟨hl, -⟩ := pt_ex hp
    obtain ⟨q1, q2, q3⟩ := h3 t ht hl
    have e : gN b (17 + t) = gN a (17 + t) := by unfold gN; rw [q2]
    refine ⟨q1, ?_⟩
    unfold lenS
    rw [e1, e]
  · obtain ⟨q1, q2, q3⟩ := h4 hp
    refine ⟨q1, q2, ?_⟩
    unfold lenS lenN
    rw [e1]
    exact lenA_mono _ _ _ q3
theorem rz_weigh (hg : zG a) {w : Nat} (hs : s < gN a 2) (hw : w ≤ 16) (h : gN a (17 + s) ≤ w) : Rz s a (upd a (17 + s) (nI w)) o := by
  have b2 := hg.2.2.1.2
  refine rz_of (upd_n (by omega)) (fun t _ => by rw [gN_u (by omega)]) (fun t ht hl => ⟨upd_n (by omega), upd_n (by omega), upd_n (by omega)⟩) (fun hp => ?_)
  obtain ⟨-, h2⟩ := pt_ex hp
  have h3 := (zG_w hg hs).2.2 h2
  have h4 := tp_i.mp h2
  refine ⟨pt_mk (by rw [gN_u (by omega)]; exact hs) (tp_i.mpr ⟨?_, ?_⟩), upd_n (by omega), ?_⟩
  · rw [upd_n (by omega)]; exact h4.1
  · rw [upd_s]; exact nI_lt (a := 0) (by omega) (by omega)
  · have e : gN (upd a (17 + s) (nI w)) (17 + s) = w := by
      unfold gN
      rw [upd_s]
      exact nI_clamp (by omega)
    rw [e]; exact h
theorem rz_fall (hg : zG a) {w : Nat} (hs : s < gN a 2) (hw : w ≤ 16) (h : w ≤ gN a (17 + s)) : Rz s (upd a (17 + s) (nI w)) a o := by
  have b2 := hg.2.2.1.2
  have hgb := zG_weigh hg (s := s) (r := w) (by omega) hw
  have e : upd (upd a (17 + s) (nI w)) (17 + s) (nI (gN a (17 + s))) = a := by
    rw [← (zG_w hg hs).1]; exact upd_back
  have e2 : gN (upd a (17 + s) (nI w)) (17 + s) = w := by
    unfold gN
    rw [upd_s]
    exact nI_clamp (by omega)
  have := rz_weigh (o := o) hgb (s := s) (w := gN a (17 + s)) (by rw [gN_u (by omega)]; exact hs) (zG_w hg hs).2.1 (by rw [e2]; exact h)
  rw [e] at this
  exact this
/-- b is a with the server s up -/
theorem rz_up (hs : s < 12) (b2 : gN a 2 ≤ 12) (h : ∀ i, i < 41 → i ≠ 4 → i ≠ 29 + s → b i = a i) (hd : ¬ a (29 + s) = 0) : Rz s a b o := by
  have e2 : gN b 2 = gN a 2 := by unfold gN; rw [h 2 (by omega) (by omega) (by omega)]
  refine rz_of (h 1 (by omega) (by omega) (by omega)) (fun t _ => by rw [e2]) (fun t ht hl => ⟨h _ (by omega) (by omega) (by omega), h _ (by omega) (by omega) (by omega), h _ (by omega) (by omega) (by omega)⟩) (fun hp => ?_)
  exact absurd (tp_i.mp (pt_ex hp).2).1 hd
theorem bldA_at {r w : Int32} : (∀ i, i ≠ 2 → i ≠ 5 + gN a 2 → i ≠ 17 + gN a 2 → i ≠ 29 + gN a 2 → bldA a r w i = a i) ∧ bldA a r w 2 = nI (gN a 2 + 1) :=
  ⟨fun i h1 h2 h3 h4 => by unfold bldA; rw [upd_n h1, upd_n h4, upd_n h3, upd_n h2], by unfold bldA; rw [upd_s]⟩
theorem rz_bld {r w : Int32} (h12 : gN a 2 < 12) : Rz (gN a 2) a (bldA a r w) o := by
  obtain ⟨U, U2⟩ := bldA_at (a := a) (r := r) (w := w)
  have e2 : gN (bldA a r w) 2 = gN a 2 + 1 := by
    show (bldA a r w 2).toNatClampNeg = _
    rw [U2]
    exact nI_clamp (by omega)
  refine rz_of (U 1 (by omega) (by omega) (by omega) (by omega)) (fun t ht => by rw [e2]; omega) (fun t ht hl => ⟨U _ (by omega) (by omega) (by omega) (by omega), U _ (by omega) (by omega) (by omega) (by omega), U _ (by omega) (by omega) (by omega) (by omega)⟩) (fun hp => ?_)
  exact absurd (pt_ex hp).1 (by omega)
end RO
end
