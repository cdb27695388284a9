/-! the one that is taken next; what a server that rises changes -/
section
set_option maxRecDepth 100000
def pt (a : Nat → Int32) (t : Nat) : Bool := decide (t < gN a 2) && tp a t
def IsB (a : Nat → Int32) (o : Nat) (l : List Nat) (b : Nat) : Prop := pt a b = true ∧ tkn a l b = false ∧ ∀ i, pt a i = true → tkn a l i = false → i ≠ b → (lenS a i o < lenS a b o ∨ (lenS a i o = lenS a b o ∧ b < i))
theorem pt_ex {a : Nat → Int32} {t : Nat} (h : pt a t = true) : t < gN a 2 ∧ tp a t = true := by
  unfold pt at h
  simp only [Bool.and_eq_true, decide_eq_true_eq] at h
  exact h
theorem pt_mk {a : Nat → Int32} {t : Nat} (h1 : t < gN a 2) (h2 : tp a t = true) : pt a t = true := by
  unfold pt
  simp [h1, h2]
theorem cnd_i {a : Nat → Int32} {l : List Nat} {s : Nat} : cnd a l s = true ↔ tp a s = true ∧ tkn a l s = false := by
  unfold cnd
  simp
theorem bst_i (a : Nat → Int32) (o : Nat) (l : List Nat) : ∀ i, (bst a o l i = none → ∀ j, j < i → cnd a l j = false) ∧ (∀ b, bst a o l i = some b → cnd a l b = true ∧ b < i ∧ ∀ j, j < i → cnd a l j = true → j ≠ b → (lenS a j o < lenS a b o ∨ (lenS a j o = lenS a b o ∧ b < j)))
  | 0 => ⟨fun _ j hj => absurd hj (by omega), fun b h => by cases h⟩
  | i + 1 => by
    obtain ⟨h1, h2⟩ := bst_i a o l i
    by_cases hc : cnd a l i = true
    · cases hb : bst a o l i with
      | none =>
        have e2 : bst a o l (i + 1) = some i := by rw [bst, if_pos hc, hb]
        refine ⟨fun h => (by rw [e2] at h; cases h), fun b h => ?_⟩
        rw [e2] at h
        cases h
        exact ⟨hc, by omega, fun j hj hcj hne => absurd (h1 hb j (by omega)) (by rw [hcj]; decide)⟩
      | some d =>
        obtain ⟨d1, d2, d3⟩ := h2 d hb
        by_cases hl : lenS a d o < lenS a i o
        · have e2 : bst a o l (i + 1) = some i := by rw [bst, if_pos hc, hb]; exact if_pos hl
          refine ⟨fun h => (by rw [e2] at h; cases h), fun b h => ?_⟩
          rw [e2] at h
          cases h
          refine ⟨hc, by omega, fun j hj hcj hne => ?_⟩
          by_cases hjd : j = d
          · subst hjd; exact Or.inl hl
          · have := d3 j (by omega) hcj hjd
            exact Or.inl (by omega)
        · have e2 : bst a o l (i + 1) = some d := by rw [bst, if_pos hc, hb]; exact if_neg hl
          refine ⟨fun h => (by rw [e2] at h; cases h), fun b h => ?_⟩
          rw [e2] at h
          cases h
          refine ⟨d1, by omega, fun j hj hcj hne => ?_⟩
          by_cases hji : j = i
          · subst hji; omega
          · exact d3 j (by omega) hcj hne
    · have e2 : bst a o l (i + 1) = bst a o l i := by rw [bst, if_neg hc]
      rw [e2]
      refine ⟨fun h j hj => ?_, fun b h => ?_⟩
      · by_cases hji : j = i
        · subst hji; simpa using hc
        · exact h1 h j (by omega)
      · obtain ⟨d1, d2, d3⟩ := h2 b h
        refine ⟨d1, by omega, fun j hj hcj hne => ?_⟩
        by_cases hji : j = i
        · subst hji; exact absurd hcj hc
        · exact d3 j (by omega) hcj hne
theorem bst_n {a : Nat → Int32} {o : Nat} {l : List Nat} (h : bst a o l (gN a 2) = none) : ∀ i, pt a i = true → tkn a l i = true := by
  intro i hi
  obtain ⟨h1, h2⟩ := pt_ex hi
  have := (bst_i a o l (gN a 2)).1 h i h1
  cases ht : tkn a l i with
  | true => rfl
  | false => rw [cnd_i.mpr ⟨h2, ht⟩] at this; cases this
theorem bst_s {a : Nat → Int32} {o b : Nat} {l : List Nat} (h : bst a o l (gN a 2) = some b) : IsB a o l b := by
  obtain ⟨h1, h2, h3⟩ := (bst_i a o l (gN a 2)).2 b h
  have h4 := cnd_i.mp h1
  refine ⟨pt_mk h2 h4.1, h4.2, fun i hi ht hne => ?_⟩
  obtain ⟨q1, q2⟩ := pt_ex hi
  exact h3 i q1 (cnd_i.mpr ⟨q2, ht⟩) hne
theorem IsB.u {a : Nat → Int32} {o b d : Nat} {l : List Nat} (h : IsB a o l b) (h2 : IsB a o l d) : b = d := by
  by_cases e : b = d
  · exact e
  · have x1 := h.2.2 d h2.1 h2.2.1 (fun q => e q.symm)
    have x2 := h2.2.2 b h.1 h.2.1 e
    omega
theorem grow_or (a : Nat → Int32) (o : Nat) (l : List Nat) : (∃ b, IsB a o l b) ∨ (∀ i, pt a i = true → tkn a l i = true) := by
  cases h : bst a o l (gN a 2) with
  | none => exact Or.inr (bst_n h)
  | some b => exact Or.inl ⟨b, bst_s h⟩
theorem grow_s {a : Nat → Int32} {o b c : Nat} {l : List Nat} (h : IsB a o l b) : grow a o (c + 1) l = grow a o c (l ++ [b]) := by
  cases hb : bst a o l (gN a 2) with
  | none => have := bst_n hb b h.1; rw [h.2.1] at this; cases this
  | some d =>
    have e := (bst_s hb).u h
    subst e
    rw [grow, hb]
theorem grow_n {a : Nat → Int32} {o c : Nat} {l : List Nat} (h : ∀ i, pt a i = true → tkn a l i = true) : grow a o c l = l := by
  cases c with
  | zero => rfl
  | succ c =>
    cases hb : bst a o l (gN a 2) with
    | none => rw [grow, hb]
    | some d =>
      have hd := bst_s hb
      have := h d hd.1
      rw [hd.2.1] at this
      cases this
theorem grow_pre (a : Nat → Int32) (o : Nat) : ∀ (c : Nat) (l : List Nat), ∃ e, grow a o c l = l ++ e
  | 0, l => ⟨[], by rw [List.append_nil]; rfl⟩
  | c + 1, l => by
    rcases grow_or a o l with ⟨d, hd⟩ | hn
    · obtain ⟨e, he⟩ := grow_pre a o c (l ++ [d])
      exact ⟨d :: e, by rw [grow_s hd, he, List.append_assoc]; rfl⟩
    · exact ⟨[], by rw [grow_n hn, List.append_nil]⟩
theorem grow_mem {a : Nat → Int32} {o c p : Nat} {l : List Nat} (h : p ∈ l) : p ∈ grow a o c l := by
  obtain ⟨e, he⟩ := grow_pre a o c l
  rw [he]
  exact List.mem_append_left _ h
theorem tkn_app (a : Nat → Int32) (l : List Nat) (d t : Nat) : tkn a (l ++ [d]) t = (tkn a l t || decide (a (5 + t) = a (5 + d))) := by
  unfold tkn
  rw [List.any_append]
  simp
/-- b is a with the server s risen -/
def Rz (s : Nat) (a b : Nat → Int32) (o : Nat) : Prop := (∀ t, t ≠ s → pt b t = pt a t) ∧ (∀ t, t ≠ s → pt a t = true → b (5 + t) = a (5 + t) ∧ lenS b t o = lenS a t o) ∧ (pt a s = true → pt b s = true ∧ b (5 + s) = a (5 + s) ∧ lenS a s o ≤ lenS b s o)
section RZ
variable {s o : Nat} {a b : Nat → Int32}
theorem Rz.r (h : Rz s a b o) {t : Nat} (ht : pt a t = true) : b (5 + t) = a (5 + t) := by
  by_cases e : t = s
  · subst e; exact (h.2.2 ht).2.1
  · exact (h.2.1 t e ht).1
theorem Rz.tk (h : Rz s a b o) {t : Nat} (ht : pt a t = true) : ∀ l : List Nat, (∀ p ∈ l, pt a p = true) → tkn b l t = tkn a l t
  | [], _ => rfl
  | p :: l, hl => by
    have := Rz.tk h ht l (fun q hq => hl q (List.mem_cons_of_mem _ hq))
    unfold tkn at this ⊢
    rw [List.any_cons, List.any_cons, this, h.r ht, h.r (hl p List.mem_cons_self)]
theorem Rz.pB (h : Rz s a b o) : ∀ (c : Nat) (l1 l2 : List Nat), (∀ t, t ≠ s → pt a t = true → tkn b l1 t = tkn a l2 t) → tkn b l1 s = true → (pt a s = true → tkn a l2 s = true) → ∀ p ∈ grow b o c l1, p ∈ l1 ∨ p ∈ grow a o c l2
  | 0, l1, l2, h1, h2, h3, p, hp => Or.inl hp
  | c + 1, l1, l2, h1, h2, h3, p, hp => by
    rcases grow_or b o l1 with ⟨d, hd⟩ | hn
    · have hds : d ≠ s := fun e => by
        subst e
        have := hd.2.1
        rw [h2] at this
        cases this
      have pa : pt a d = true := by rw [← h.1 d hds]; exact hd.1
      have ha : IsB a o l2 d := ⟨pa, by rw [← h1 d hds pa]; exact hd.2.1, fun i hi ht hne => by
        by_cases his : i = s
        · subst his; rw [h3 hi] at ht; cases ht
        · have := hd.2.2 i (by rw [h.1 i his]; exact hi) (by rw [h1 i his hi]; exact ht) hne
          rw [(h.2.1 i his hi).2, (h.2.1 d hds pa).2] at this
          exact this⟩
      rw [grow_s hd] at hp
      rw [grow_s ha]
      have r := Rz.pB h c (l1 ++ [d]) (l2 ++ [d]) (fun t hts hpt => by rw [tkn_app, tkn_app, h1 t hts hpt, (h.2.1 t hts hpt).1, (h.2.1 d hds pa).1]) (by rw [tkn_app, h2]; rfl) (fun q => by rw [tkn_app, h3 q]; rfl) p hp
      rcases r with r | r
      · rcases List.mem_append.mp r with r | r
        · exact Or.inl r
        · right
          rw [List.mem_singleton.mp r]
          exact grow_mem (by simp)
      · exact Or.inr r
    · rw [grow_n hn] at hp
      exact Or.inl hp
theorem Rz.pA (h : Rz s a b o) : ∀ (c : Nat) (l l1 : List Nat), (∀ t, t ≠ s → pt a t = true → tkn b l1 t = (tkn a l t || decide (b (5 + t) = b (5 + s)))) → tkn b l1 s = true → ∀ p ∈ grow b o c l1, p ∈ l1 ∨ p ∈ grow a o (c + 1) l
  | 0, l, l1, h1, h2, p, hp => Or.inl hp
  | c + 1, l, l1, h1, h2, p, hp => by
    rcases grow_or a o l with ⟨d, hd⟩ | hn
    · have rd : b (5 + d) = a (5 + d) := h.r hd.1
      by_cases hr : b (5 + d) = b (5 + s)
      · rw [grow_s hd]
        refine h.pB (c + 1) l1 (l ++ [d]) (fun t hts hpt => ?_) h2 (fun hs => ?_) p hp
        · rw [tkn_app, h1 t hts hpt, ← rd, hr, h.r hpt]
        · rw [tkn_app, ← rd, hr, h.r hs]; simp
      · have hds : d ≠ s := fun e => hr (by rw [e])
        have hb : IsB b o l1 d := ⟨by rw [h.1 d hds]; exact hd.1, by rw [h1 d hds hd.1, hd.2.1]; simpa using hr, fun i hi ht hne => by
          have his : i ≠ s := fun e => by
            subst e
            rw [h2] at ht
            cases ht
          have pi : pt a i = true := by rw [← h.1 i his]; exact hi
          rw [h1 i his pi, Bool.or_eq_false_iff] at ht
          have := hd.2.2 i pi ht.1 hne
          rw [← (h.2.1 i his pi).2, ← (h.2.1 d hds hd.1).2] at this
          exact this⟩
        rw [grow_s hb] at hp
        rw [grow_s hd]
        have r := Rz.pA h c (l ++ [d]) (l1 ++ [d]) (fun t hts hpt => by
          rw [tkn_app, tkn_app, h1 t hts hpt, ← rd, ← (h.2.1 t hts hpt).1, Bool.or_assoc, Bool.or_assoc, Bool.or_comm (decide (b (5 + t) = b (5 + s)))]) (by rw [tkn_app, h2]; rfl) p hp
        rcases r with r | r
        · rcases List.mem_append.mp r with r | r
          · exact Or.inl r
          · right
            rw [List.mem_singleton.mp r]
            exact grow_mem (by simp)
        · exact Or.inr r
    · have hx : ∀ i, pt b i = true → tkn b l1 i = true := fun i hi => by
        by_cases his : i = s
        · rw [his]; exact h2
        · have pi : pt a i = true := by rw [← h.1 i his]; exact hi
          rw [h1 i his pi, hn i pi]; rfl
      rw [grow_n hx] at hp
      exact Or.inl hp
theorem Rz.p0 (h : Rz s a b o) : ∀ (c : Nat) (l : List Nat), (∀ p ∈ l, p ≠ s ∧ pt a p = true) → (∀ p ∈ grow b o c l, p ∈ grow a o c l ∨ p = s) ∧ (s ∉ grow b o c l → grow a o c l = grow b o c l)
  | 0, l, hl => ⟨fun p hp => Or.inl hp, fun _ => rfl⟩
  | c + 1, l, hl => by
    have tk : ∀ t, pt a t = true → tkn b l t = tkn a l t := fun t ht => h.tk ht l (fun p hp => (hl p hp).2)
    rcases grow_or b o l with ⟨d, hd⟩ | hn
    · by_cases hds : d = s
      · subst hds
        rw [grow_s hd]
        refine ⟨fun p hp => ?_, fun hns => absurd (grow_mem (by simp)) hns⟩
        rcases h.pA c l (l ++ [d]) (fun t hts hpt => by rw [tkn_app, tk t hpt]) (by rw [tkn_app]; simp) p hp with r | r
        · rcases List.mem_append.mp r with r | r
          · exact Or.inl (grow_mem r)
          · exact Or.inr (List.mem_singleton.mp r)
        · exact Or.inl r
      · have pa : pt a d = true := by rw [← h.1 d hds]; exact hd.1
        have ha : IsB a o l d := ⟨pa, by rw [← tk d pa]; exact hd.2.1, fun i hi ht hne => by
          by_cases his : i = s
          · subst his
            obtain ⟨q1, q2, q3⟩ := h.2.2 hi
            have := hd.2.2 i q1 (by rw [tk i hi]; exact ht) hne
            rw [(h.2.1 d hds pa).2] at this
            omega
          · have := hd.2.2 i (by rw [h.1 i his]; exact hi) (by rw [tk i hi]; exact ht) hne
            rw [(h.2.1 i his hi).2, (h.2.1 d hds pa).2] at this
            exact this⟩
        rw [grow_s hd, grow_s ha]
        exact Rz.p0 h c (l ++ [d]) (fun p hp => by
          rcases List.mem_append.mp hp with hp | hp
          · exact hl p hp
          · rw [List.mem_singleton.mp hp]; exact ⟨hds, pa⟩)
    · have ha : ∀ i, pt a i = true → tkn a l i = true := fun i hi => by
        rw [← tk i hi]
        refine hn i ?_
        by_cases his : i = s
        · subst his; exact (h.2.2 hi).1
        · rw [h.1 i his]; exact hi
      rw [grow_n hn, grow_n ha]
      exact ⟨fun p hp => Or.inl hp, fun _ => rfl⟩
theorem pnd_pt (hg : zG a) {pin : Int32} (h : pnd a pin = true) : ∃ j, pin = nI j ∧ pin.toNatClampNeg = j ∧ pt a j = true := by
  obtain ⟨j, h1, h2, h3, h4⟩ := pnd_ex hg h
  exact ⟨j, h2, h3, pt_mk h1 h4⟩
theorem pnd_mk (hg : zG a) {j : Nat} (h : pt a j = true) : pnd a (nI j) = true := by
  obtain ⟨h1, h2⟩ := pt_ex h
  have b2 := hg.2.2.1.2
  unfold pnd
  rw [zinb_nI h1 (by omega), nI_clamp (by omega), h2]
  rfl
theorem Rz.plcs (hga : zG a) (hgb : zG b) (e0 : b 0 = a 0) (h : Rz s a b o) (pin : Int32) : (∀ p ∈ plc b o pin, p ∈ plc a o pin ∨ p = s) ∧ (s ∉ plc b o pin → plc a o pin = plc b o pin) := by
  have e0 : gN b 0 = gN a 0 := by unfold gN; rw [e0]
  have c1 := hga.1.2.1
  unfold plc
  rw [e0]
  by_cases hb : pnd b pin = true
  · obtain ⟨j, j1, j2, j3⟩ := pnd_pt hgb hb
    rw [if_pos hb]
    by_cases ha : pnd a pin = true
    · rw [if_pos ha, j2]
      obtain ⟨j', i1, i2, i3⟩ := pnd_pt hga ha
      have ej : j' = j := i2.symm.trans j2
      subst ej
      by_cases js : j' = s
      · subst js
        refine ⟨fun p hp => ?_, fun hn => absurd (grow_mem (by simp)) hn⟩
        rcases h.pB (gN a 0 - 1) [j'] [j'] (fun t hts hpt => h.tk hpt [j'] (fun q hq => by rw [List.mem_singleton.mp hq]; exact i3)) (by simp [tkn]) (fun _ => by simp [tkn]) p hp with r | r
        · exact Or.inr (List.mem_singleton.mp r)
        · exact Or.inl r
      · exact h.p0 (gN a 0 - 1) [j'] (fun q hq => by rw [List.mem_singleton.mp hq]; exact ⟨js, i3⟩)
    · rw [if_neg ha, j2]
      have js : j = s := by
        by_cases js : j = s
        · exact js
        · exact absurd (by rw [j1]; exact pnd_mk hga (by rw [← h.1 j js]; exact j3)) ha
      subst js
      refine ⟨fun p hp => ?_, fun hn => absurd (grow_mem (by simp)) hn⟩
      have := h.pA (gN a 0 - 1) [] [j] (fun t hts hpt => by simp [tkn]) (by simp [tkn]) p hp
      rw [show gN a 0 - 1 + 1 = gN a 0 by omega] at this
      rcases this with r | r
      · exact Or.inr (List.mem_singleton.mp r)
      · exact Or.inl r
  · have ha : ¬ pnd a pin = true := fun ha => by
      obtain ⟨j, j1, j2, j3⟩ := pnd_pt hga ha
      apply hb
      rw [j1]
      refine pnd_mk hgb ?_
      by_cases js : j = s
      · subst js; exact (h.2.2 j3).1
      · rw [h.1 j js]; exact j3
    rw [if_neg hb, if_neg ha]
    exact h.p0 (gN a 0) [] (fun q hq => by cases hq)
end RZ
end
