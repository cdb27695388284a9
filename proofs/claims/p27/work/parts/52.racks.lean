/-! racks that have a server; how many places there are, in which order -/
section
set_option maxRecDepth 100000
def dif (m t : Nat) : Nat := ((List.range 6).filter (fun r => m.testBit r && !t.testBit r)).length
theorem dif_st : ∀ m, m < 64 → ∀ t, t < 64 → ∀ r, r < 6 → m.testBit r = true → t.testBit r = false → dif m t = dif m (t ||| 2 ^ r) + 1 := by decide +kernel
theorem dif_or : ∀ m, m < 64 → ∀ r, r < 6 → dif (m ||| 2 ^ r) 0 = dif m 0 + (if m.testBit r = true then 0 else 1) := by decide +kernel
theorem dif_0 {m t : Nat} (h : ∀ r, r < 6 → m.testBit r = true → t.testBit r = true) : dif m t = 0 := by
  unfold dif
  rw [List.length_eq_zero_iff, List.filter_eq_nil_iff]
  intro r hr
  have := h r (List.mem_range.mp hr)
  cases h1 : m.testBit r with
  | false => simp
  | true => rw [this h1]; simp
def pts (a : Nat → Int32) (i : Nat) : List Nat := (List.range i).filter (fun s => tp a s)
def Mk (a : Nat → Int32) (i : Nat) : Nat := rkM a (pts a i)
theorem pts_s (a : Nat → Int32) (i : Nat) : pts a (i + 1) = if tp a i = true then pts a i ++ [i] else pts a i := by
  unfold pts
  rw [List.range_succ, List.filter_append]
  by_cases h : tp a i = true
  · simp [h]
  · simp [h]
theorem Mk_s (a : Nat → Int32) (i : Nat) : Mk a (i + 1) = if tp a i = true then Mk a i ||| 2 ^ gN a (5 + i) else Mk a i := by
  unfold Mk
  rw [pts_s]
  split
  · rw [rkM_app]
  · rfl
section RK
variable {a : Nat → Int32}
theorem pts_lt {i p : Nat} (h : p ∈ pts a i) : p < i ∧ tp a p = true := by
  unfold pts at h
  have := List.mem_filter.mp h
  exact ⟨List.mem_range.mp this.1, this.2⟩
theorem rkM_t (hg : zG a) {l : List Nat} (hl : ∀ p ∈ l, p < gN a 2) {s : Nat} (hs : s < gN a 2) : (rkM a l).testBit (gN a (5 + s)) = tkn a l s := by
  have hr := (hg.2.2.2.2.2.1 s hs).1
  have h2 := (rkM_go hg l 0 (by decide) hl).2
  unfold rkM
  rw [h2 _ hr.2, Nat.zero_testBit, Bool.false_or]
  unfold tkn
  apply Bool.eq_iff_iff.mpr
  simp only [List.any_eq_true, decide_eq_true_eq]
  constructor
  · rintro ⟨p, hp, e⟩
    have hq := (hg.2.2.2.2.2.1 p (hl p hp)).1
    exact ⟨p, hp, by rw [hr.1, hq.1, e]⟩
  · rintro ⟨p, hp, e⟩
    have hq := (hg.2.2.2.2.2.1 p (hl p hp)).1
    rw [hr.1, hq.1] at e
    exact ⟨p, hp, (nI_eq (by omega) (by omega)).mp e⟩
theorem Mk_lt (hg : zG a) {i : Nat} (hi : i ≤ gN a 2) : Mk a i < 64 := (rkM_ok hg (fun p hp => Nat.lt_of_lt_of_le (pts_lt hp).1 hi)).1
theorem Mk_has (hg : zG a) {s : Nat} (hs : pt a s = true) : (Mk a (gN a 2)).testBit (gN a (5 + s)) = true := by
  obtain ⟨h1, h2⟩ := pt_ex hs
  unfold Mk
  rw [rkM_t hg (fun p hp => (pts_lt hp).1) h1]
  unfold tkn
  rw [List.any_eq_true]
  exact ⟨s, List.mem_filter.mpr ⟨List.mem_range.mpr h1, h2⟩, by simp⟩
theorem Mk_ex (hg : zG a) {r : Nat} (hr : r < 6) (h : (Mk a (gN a 2)).testBit r = true) : ∃ s, pt a s = true ∧ gN a (5 + s) = r := by
  unfold Mk rkM at h
  rw [(rkM_go hg _ 0 (by decide) (fun p hp => (pts_lt hp).1)).2 r hr, Nat.zero_testBit, Bool.false_or, List.any_eq_true] at h
  obtain ⟨p, hp, e⟩ := h
  have := pts_lt hp
  exact ⟨p, pt_mk this.1 this.2, (of_decide_eq_true e).symm⟩
theorem grow_len (hg : zG a) (o : Nat) : ∀ (c : Nat) (l : List Nat), (∀ p ∈ l, pt a p = true) → (grow a o c l).length = l.length + min c (dif (Mk a (gN a 2)) (rkM a l))
  | 0, l, hl => by
    show l.length = _
    omega
  | c + 1, l, hl => by
    have hl2 : ∀ p ∈ l, p < gN a 2 := fun p hp => (pt_ex (hl p hp)).1
    have hM := Mk_lt hg (Nat.le_refl (gN a 2))
    have hR := (rkM_ok hg hl2).1
    rcases grow_or a o l with ⟨d, hd⟩ | hn
    · have hd2 := (pt_ex hd.1).1
      have hr := (hg.2.2.2.2.2.1 d hd2).1.2
      rw [grow_s hd, grow_len hg o c (l ++ [d]) (fun p hp => by
        rcases List.mem_append.mp hp with hp | hp
        · exact hl p hp
        · rw [List.mem_singleton.mp hp]; exact hd.1), rkM_app, dif_st _ hM _ hR _ hr (Mk_has hg hd.1) (by rw [rkM_t hg hl2 hd2]; exact hd.2.1), List.length_append, List.length_singleton]
      omega
    · rw [grow_n hn, dif_0 (fun r hr h => by
        obtain ⟨s, hs, e⟩ := Mk_ex hg hr h
        rw [← e, rkM_t hg hl2 (pt_ex hs).1]
        exact hn s hs)]
      omega
theorem plc_len (hg : zG a) (o : Nat) (pin : Int32) : (plc a o pin).length = min (gN a 0) (dif (Mk a (gN a 2)) 0) := by
  have c1 := hg.1.2.1
  unfold plc
  split
  next h =>
    obtain ⟨j, -, j2, j3⟩ := pnd_pt hg h
    have hd2 := (pt_ex j3).1
    have hr := (hg.2.2.2.2.2.1 j hd2).1.2
    rw [j2, grow_len hg o _ _ (fun p hp => by rw [List.mem_singleton.mp hp]; exact j3), dif_st _ (Mk_lt hg (Nat.le_refl _)) 0 (by decide) _ hr (Mk_has hg j3) (Nat.zero_testBit _), List.length_singleton]
    show 1 + min (gN a 0 - 1) (dif (Mk a (gN a 2)) (0 ||| 2 ^ gN a (5 + j))) = _
    omega
  next h =>
    rw [grow_len hg o _ _ (fun p hp => by cases hp)]
    show 0 + min (gN a 0) (dif (Mk a (gN a 2)) 0) = _
    omega
/-- racks unlike, straws in order behind place j -/
def Gd (a : Nat → Int32) (o j : Nat) (l : List Nat) : Prop := ∀ c, c < l.length → tkn a (l.take c) (l.getD c 0) = false ∧ (j < c → lenS a (l.getD c 0) o ≤ lenS a (l.getD (c - 1) 0) o)
theorem getD_a {l e : List Nat} {c : Nat} (h : c < l.length) : (l ++ e).getD c 0 = l.getD c 0 := by
  rw [List.getD_eq_getElem?_getD, List.getD_eq_getElem?_getD, List.getElem?_append_left h]
theorem getD_e {l : List Nat} {b : Nat} : (l ++ [b]).getD l.length 0 = b := by
  rw [List.getD_eq_getElem?_getD, List.getElem?_append_right (Nat.le_refl _), Nat.sub_self]
  rfl
theorem grow_gd (o j : Nat) : ∀ (c : Nat) (l : List Nat), Gd a o j l → (j < l.length → ∀ i, pt a i = true → tkn a l i = false → lenS a i o ≤ lenS a (l.getD (l.length - 1) 0) o) → Gd a o j (grow a o c l)
  | 0, l, hl, _ => hl
  | c + 1, l, hl, hv => by
    rcases grow_or a o l with ⟨d, hd⟩ | hn
    · rw [grow_s hd]
      refine grow_gd o j c (l ++ [d]) (fun k hk => ?_) (fun _ i hi ht => ?_)
      · rw [List.length_append, List.length_singleton] at hk
        by_cases e : k = l.length
        · subst e
          rw [getD_e, List.take_left]
          refine ⟨hd.2.1, fun hj => ?_⟩
          rw [getD_a (by omega)]
          exact hv hj d hd.1 hd.2.1
        · have hk2 : k < l.length := by omega
          have := hl k hk2
          rw [getD_a hk2, List.take_append_of_le_length (by omega)]
          refine ⟨this.1, fun hj => ?_⟩
          rw [getD_a (by omega)]
          exact this.2 hj
      · rw [List.length_append, List.length_singleton, Nat.add_sub_cancel, getD_e]
        rw [tkn_app, Bool.or_eq_false_iff] at ht
        have hne : i ≠ d := fun e => by
          rw [e] at ht
          simp at ht
        have := hd.2.2 i hi ht.1 hne
        omega
    · rw [grow_n hn]
      exact hl
theorem plc_gd (o : Nat) (pin : Int32) : Gd a o (if pnd a pin = true then 1 else 0) (plc a o pin) := by
  unfold plc
  split
  next h =>
    refine grow_gd o 1 _ _ (fun c hc => ?_) (fun h => ?_)
    · rw [List.length_singleton] at hc
      have : c = 0 := by omega
      subst this
      exact ⟨rfl, fun h => absurd h (by omega)⟩
    · exact absurd h (by rw [List.length_singleton]; omega)
  next h => exact grow_gd o 0 _ _ (fun c hc => absurd hc (by simp)) (fun h => absurd h (by simp))
theorem Gd.nd {o j : Nat} : ∀ {l : List Nat}, Gd a o j l → l.Nodup := by
  intro l h
  refine List.pairwise_iff_getElem.mpr (fun i k hi hk hik e => ?_)
  have h1 := (h k hk).1
  have h2 : l.getD k 0 = l[k] := by rw [List.getD_eq_getElem?_getD, List.getElem?_eq_getElem hk]; rfl
  rw [h2] at h1
  have h3 : l[k] ∈ l.take k := by
    apply List.mem_of_getElem? (i := i)
    rw [List.getElem?_take_of_lt hik, List.getElem?_eq_getElem hi, e]
  have h4 : tkn a (l.take k) l[k] = true := by
    unfold tkn
    rw [List.any_eq_true]
    exact ⟨_, h3, by simp⟩
  rw [h4] at h1
  cases h1
theorem plc_nd (o : Nat) (pin : Int32) : (plc a o pin).Nodup := (plc_gd o pin).nd
theorem plc_pt (hg : zG a) (o : Nat) (pin : Int32) : ∀ p ∈ plc a o pin, pt a p = true := fun p hp => by
  have := (plc_ok hg o pin).1 p hp
  exact pt_mk this.1 this.2
theorem plc_0 (hg : zG a) {o j : Nat} (h : pt a j = true) : 0 < (plc a o (nI j)).length ∧ (plc a o (nI j)).getD 0 0 = j := by
  have b2 := hg.2.2.1.2
  unfold plc
  rw [if_pos (pnd_mk hg h), nI_clamp (by have := (pt_ex h).1; omega)]
  obtain ⟨e, he⟩ := grow_pre a o (gN a 0 - 1) [j]
  rw [he]
  exact ⟨by simp, rfl⟩
end RK
end
