/-! each kind of change, as the law asks of it -/
section
set_option maxRecDepth 100000
section ST
variable {a b a0 a1 : Nat → Int32} {s : Nat}
theorem asc_of (h : asc a) (e3 : b 3 = a 3) (eo : ∀ k, k < gN a 3 → b (41 + k) = a (41 + k)) : asc b := by
  have x3 : gN b 3 = gN a 3 := by unfold gN; rw [e3]
  intro p q hpq hq
  rw [x3] at hq
  have x1 : gN b (41 + p) = gN a (41 + p) := by unfold gN; rw [eo p (by omega)]
  have x2 : gN b (41 + q) = gN a (41 + q) := by unfold gN; rw [eo q hq]
  rw [x1, x2]
  exact h p q hpq hq
theorem asc_m (hg : zG a) (h : asc a) (e : zEqM a b) : asc b := by
  have b3 := hg.2.2.2.1.2
  exact asc_of h (e 3 (by decide) (by decide)) (fun k hk => e _ (by omega) (by omega))
theorem sam_of (hg : zG a) (e0 : b 0 = a 0) (e3 : b 3 = a 3) (eo : ∀ k, k < gN a 3 → b (41 + k) = a (41 + k)) (ep : ∀ k, k < gN a 3 → b (81 + k) = a (81 + k)) : sam a b := by
  have x3 : gN b 3 = gN a 3 := by unfold gN; rw [e3]
  refine ⟨e0, fun k hk => ?_⟩
  rw [x3] at hk
  exact ⟨by unfold gN; rw [eo k hk], ep k hk⟩
theorem sam_m (hg : zG a) (e : zEqM a b) : sam a b := by
  have b3 := hg.2.2.2.1.2
  exact sam_of hg (e 0 (by decide) (by decide)) (e 3 (by decide) (by decide)) (fun k hk => e _ (by omega) (by omega)) (fun k hk => e _ (by omega) (by omega))
theorem dfl_self (l : List Nat) : dfl l l = [] := by
  rw [List.eq_nil_iff_forall_not_mem]
  intro p hp
  have := dfl_in.mp hp
  exact this.2 this.1
theorem mx_st (k : Nat) : mxS a0 a1 (k + 1) = mxS a0 a1 k + max (cntS (lostI a0 a1 k)) (cntS (gotI a0 a1 k)) := rfl
theorem mx_same (h0 : zG a0) (h1 : zG a1) {k : Nat} (e : plK a1 k = plK a0 k) : max (cntS (lostI a0 a1 k)) (cntS (gotI a0 a1 k)) = 0 := by
  rw [lost_eq h0 h1, got_eq h0 h1, e, dfl_self, cnt_nil]
  rfl
theorem dif_mono {m m' : Nat} (h : ∀ r, r < 6 → m.testBit r = true → m'.testBit r = true) : dif m 0 ≤ dif m' 0 := by
  unfold dif
  rw [← List.countP_eq_length_filter, ← List.countP_eq_length_filter]
  refine List.countP_mono_left (fun r hr h2 => ?_)
  simp only [Nat.zero_testBit, Bool.not_false, Bool.and_true] at h2 ⊢
  exact h r (List.mem_range.mp hr) h2
theorem cps_rz {lo hi : Nat → Int32} (hl : zG lo) (hh : zG hi) (e0 : hi 0 = lo 0) (h : Rz s lo hi 0) (hd : ¬ pt lo s = true) : cps lo ≤ cps hi := by
  have x0 : gN hi 0 = gN lo 0 := by unfold gN; rw [e0]
  unfold cps
  rw [x0]
  have := dif_mono (m := Mk lo (gN lo 2)) (m' := Mk hi (gN hi 2)) (fun r hr hb => by
    obtain ⟨t, ht, e⟩ := Mk_ex hl hr hb
    have hts : t ≠ s := fun q => hd (by rw [← q]; exact ht)
    have hp : pt hi t = true := by rw [h.1 t hts]; exact ht
    have := Mk_has hh hp
    have e2 : gN hi (5 + t) = r := by rw [← e]; unfold gN; rw [h.r ht]
    rw [e2] at this
    exact this)
  omega
/-- a server that goes down loses what it had, and comes back with it -/
theorem mx_dn {lo hi : Nat → Int32} (hl : zG lo) (hh : zG hi) (hs : s < 12) (e : sam hi lo) (h : ∀ o, Rz s lo hi o) (hd : ¬ pt lo s = true) {k : Nat} (hk : k < gN lo 3) : max (cntS (lostI hi lo k)) (cntS (gotI hi lo k)) = if s ∈ plK hi k then 1 else 0 := by
  have e1 := sam_pl e hk
  have e0 : plK hi k = plc hi (gN hi (41 + k)) (hi (81 + k)) := rfl
  obtain ⟨r1, r2⟩ := (h (gN hi (41 + k))).plcs hl hh e.1.symm (hi (81 + k))
  rw [← e1, ← e0] at r1 r2
  have n1 : (plK hi k).Nodup := plc_nd _ _
  have n2 : (plK lo k).Nodup := plc_nd _ _
  have hsl : s ∉ plK lo k := fun q => hd (plc_pt hl _ _ s q)
  rw [lost_eq hh hl, got_eq hh hl, dfl_one n1 r1]
  by_cases hm : s ∈ plK hi k
  · rw [if_pos ⟨hm, hsl⟩, if_pos hm, cnt_one s hs]
    have h1 := dfl_le n1 n2 hm (by rw [plK_len hl, plK_len hh]; exact cps_rz hl hh e.1.symm (h 0) hd) r1
    have h2 := cnt_le1 h1 (fun p hp => (plK_ok hl k).1 p (dfl_in.mp hp).1)
    omega
  · rw [if_neg (fun q => hm q.1), if_neg hm, cnt_nil, r2 hm, dfl_self, cnt_nil]
    rfl
theorem mx_dnS {lo hi : Nat → Int32} (hl : zG lo) (hh : zG hi) (hs : s < 12) (e : sam hi lo) (h : ∀ o, Rz s lo hi o) (hd : ¬ pt lo s = true) : ∀ k, k ≤ gN lo 3 → mxS hi lo k = ldN hi s k ∧ mxS lo hi k = ldN hi s k
  | 0, _ => ⟨rfl, rfl⟩
  | k + 1, hk => by
    obtain ⟨i1, i2⟩ := mx_dnS hl hh hs e h hd k (by omega)
    have hx := mx_dn hl hh hs e h hd (k := k) (by omega)
    have hx2 : max (cntS (lostI lo hi k)) (cntS (gotI lo hi k)) = if s ∈ plK hi k then 1 else 0 := by
      rw [← hx, Nat.max_comm]
      rfl
    rw [mx_st, mx_st, i1, i2, hx, hx2]
    exact ⟨rfl, rfl⟩
theorem ldN_0 (hg : zG a) (hd : ¬ pt a s = true) : ∀ k, ldN a s k = 0
  | 0 => rfl
  | k + 1 => by
    unfold ldN
    rw [ldN_0 hg hd k, if_neg (fun q => hd (plK_pt hg k s q))]
theorem ldN_m (hg : zG a) (e : zEqM a b) : ∀ k, k ≤ 40 → ldN b s k = ldN a s k
  | 0, _ => rfl
  | k + 1, hk => by
    unfold ldN
    rw [ldN_m hg e k (by omega), e.c_plK hg (by omega)]
/-- a pin moves copies of its object alone -/
theorem mx_pin (h0 : zG a0) (h1 : zG a1) {q : Nat} (he : ∀ k, k < gN a1 3 → k ≠ q → plK a1 k = plK a0 k) : ∀ k, k ≤ gN a1 3 → mxS a0 a1 k ≤ if q < k then 3 else 0
  | 0, _ => Nat.zero_le _
  | k + 1, hk => by
    have := mx_pin h0 h1 he k (by omega)
    rw [mx_st]
    by_cases e : k = q
    · subst e
      rw [if_neg (by omega)] at this
      rw [if_pos (by omega)]
      have c1 := cntS_le (lostI a0 a1 k)
      have c2 := cntS_le (gotI a0 a1 k)
      omega
    · rw [mx_same h0 h1 (he k (by omega) e)]
      by_cases e2 : q < k
      · rw [if_pos e2] at this
        rw [if_pos (by omega)]
        omega
      · rw [if_neg e2] at this
        rw [if_neg (by omega)]
        omega
theorem mx_id (h0 : zG a) : ∀ k, mxS a a k = 0
  | 0 => rfl
  | k + 1 => by rw [mx_st, mx_id h0 k, mx_same h0 h0 rfl]
theorem zEqP_pin (hg : zG a) {q : Nat} {v : Int32} : zEqP a (upd a (81 + q) v) := by
  have b2 := hg.2.2.1.2
  exact ⟨upd_n (by omega), upd_n (by omega), upd_n (by omega), fun s hs => ⟨upd_n (by omega), upd_n (by omega), upd_n (by omega)⟩⟩
theorem plK_pin (hg : zG a) {q k : Nat} {v : Int32} (hk : k < 40) (e : k ≠ q) : plK (upd a (81 + q) v) k = plK a k := by
  unfold plK
  rw [(zEqP_pin hg).c_plc hg, gN_u (by omega), upd_n (by omega)]
/-- objects stay in order when one is stored -/
theorem ipos_b {g : Nat → Int32} {o : Int32} : ∀ r, (∀ i, ipos g o r ≤ i → i < r → ¬ g i ≤ o) ∧ (0 < ipos g o r → g (ipos g o r - 1) ≤ o)
  | 0 => ⟨fun i h1 h2 => absurd h2 (by omega), fun h => absurd h (by show ¬ 0 < 0; omega)⟩
  | r + 1 => by
    obtain ⟨i1, i2⟩ := ipos_b (g := g) (o := o) r
    unfold ipos
    split
    next h => exact ⟨fun i h1 h2 => absurd h1 (by omega), fun _ => by rw [Nat.add_sub_cancel]; exact h⟩
    next h =>
      refine ⟨fun i h1 h2 => ?_, i2⟩
      by_cases e : i = r
      · subst e; exact h
      · exact i1 i h1 (by omega)
theorem asc_ins (hg : zG a) (ha : asc a) {o : Nat} (h40 : gN a 3 < 40) (ho : o ≤ 9999) (hn : ∀ k, k < gN a 3 → ¬ a (41 + k) = nI o) : asc (insA a (nI o)) := by
  have e3 := gN_insA3 (o := nI o) h40
  obtain ⟨i1, i2⟩ := ipos_b (g := fun i => a (41 + i)) (o := nI o) (gN a 3)
  have ip := ipos_le (fun i => a (41 + i)) (nI o) (gN a 3)
  have hb := fun k (hk : k < gN a 3) => (hg.2.2.2.2.2.2 k hk).1
  generalize hp : ipos (fun i => a (41 + i)) (nI o) (gN a 3) = p at *
  have lo : ∀ k, k < p → gN a (41 + k) < o := fun k hk => by
    have x1 := hb k (by omega)
    have x2 := hb (p - 1) (by omega)
    have x3 := i2 (by omega)
    have x4 : gN a (41 + k) ≤ gN a (41 + (p - 1)) := by
      by_cases e : k = p - 1
      · rw [e]; exact Nat.le_refl _
      · exact Nat.le_of_lt (ha k (p - 1) (by omega) (by omega))
    have x5 := hn (p - 1) (by omega)
    rw [x2.1] at x3 x5
    have x6 := (nI_leI (by omega) (by omega)).mp x3
    have x7 : gN a (41 + (p - 1)) ≠ o := fun q => x5 (by rw [q])
    omega
  have up : ∀ k, p ≤ k → k < gN a 3 → o < gN a (41 + k) := fun k h1 h2 => by
    have x1 := hb k h2
    have x3 := i1 k h1 h2
    have x3 : ¬ a (41 + k) ≤ nI o := x3
    rw [x1.1, nI_leI (by omega) (by omega)] at x3
    omega
  have at_ : ∀ k, k < gN a 3 + 1 → gN (insA a (nI o)) (41 + k) = if k < p then gN a (41 + k) else if k = p then o else gN a (41 + (k - 1)) := fun k hk => by
    unfold gN
    rw [insA_o (by omega), hp]
    unfold insF
    by_cases c1 : k < p
    · rw [if_pos c1, upd_n (by omega), shf_lo (by omega)]
    · rw [if_neg c1]
      by_cases c2 : k = p
      · rw [if_pos c2, c2, upd_s]
        exact nI_clamp (by omega)
      · rw [if_neg c2, upd_n c2]
        unfold shf
        rw [if_pos ⟨by omega, by omega⟩]
  intro x y hxy hy
  rw [e3] at hy
  rw [at_ x (by omega), at_ y hy]
  by_cases c1 : y < p
  · rw [if_pos (by omega), if_pos c1]
    exact ha x y hxy (by omega)
  · rw [if_neg c1]
    by_cases c2 : y = p
    · rw [if_pos c2, if_pos (by omega)]
      exact lo x (by omega)
    · rw [if_neg c2]
      by_cases c3 : x < p
      · rw [if_pos c3]
        have := lo x c3
        have := up (y - 1) (by omega) (by omega)
        omega
      · rw [if_neg c3]
        by_cases c4 : x = p
        · rw [if_pos c4]
          exact up (y - 1) (by omega) (by omega)
        · rw [if_neg c4]
          exact ha (x - 1) (y - 1) (by omega) (by omega)
theorem fnd_no {o : Int32} (hg : zG a) (h : fnd a o = -6) : ∀ k, k < gN a 3 → ¬ a (41 + k) = o := by
  have b3 := hg.2.2.2.1.2
  have key : ∀ (j i : Nat), i + j ≤ 40 → fndF (fun i => a (41 + i) == o) j i = -6 → ∀ k, i ≤ k → k < i + j → ¬ a (41 + k) = o := by
    intro j
    induction j with
    | zero => intro i _ _ k h1 h2; omega
    | succ j ih =>
      intro i hi hf k h1 h2
      unfold fndF at hf
      split at hf
      next => exact absurd hf (nI_ne6 (by omega))
      next hp =>
        by_cases e : k = i
        · subst e; simpa using hp
        · exact ih (i + 1) (by omega) hf k (by omega) (by omega)
  intro k hk
  exact key _ 0 (by omega) h k (Nat.zero_le _) (by omega)
theorem fnd_at (hg : zG a) (ha : asc a) {q : Nat} (hq : q < gN a 3) : ¬ fnd a (a (41 + q)) = -6 ∧ fnd a (a (41 + q)) = nI q := by
  have b3 := hg.2.2.2.1.2
  have h1 : ¬ fnd a (a (41 + q)) = -6 := fun e => fnd_no hg e q hq rfl
  refine ⟨h1, ?_⟩
  obtain ⟨r, r1, r2, r3, -⟩ := fnd_ok hg h1
  have e : r = q := by
    have x2 : gN a (41 + r) = gN a (41 + q) := by unfold gN; rw [r2]
    rcases Nat.lt_trichotomy r q with h | h | h
    · have := ha r q h hq; omega
    · exact h
    · have := ha q r h r1; omega
  rw [r3, e]
end ST
end
