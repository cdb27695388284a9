/-! sets as bits: what is gained, what is lost -/
section
set_option maxRecDepth 100000
theorem one_bit : ∀ p, p < 12 → ∀ i, i < 32 → (((1 : Int32) <<< (nI p &&& 31)).toBitVec).getLsbD i = decide (i = p) := by decide +kernel
theorem setI_bg : ∀ (l : List Nat) (S0 : Int32), (∀ p ∈ l, p < 12) → ∀ i, i < 32 → ((l.foldl (fun S p => S ||| ((1 : Int32) <<< (nI p &&& 31))) S0).toBitVec).getLsbD i = (S0.toBitVec.getLsbD i || l.contains i)
  | [], S0, _, i, _ => by simp
  | p :: l, S0, hl, i, hi => by
    rw [List.foldl_cons, setI_bg l _ (fun q hq => hl q (List.mem_cons_of_mem _ hq)) i hi, Int32.toBitVec_or, BitVec.getLsbD_or, one_bit p (hl p List.mem_cons_self) i hi, List.contains_cons, Bool.or_assoc]
    congr 1
theorem setI_b {l : List Nat} (hl : ∀ p ∈ l, p < 12) {i : Nat} (hi : i < 32) : (setI l).toBitVec.getLsbD i = l.contains i := by
  unfold setI
  rw [setI_bg l 0 hl i hi]
  have : (0 : Int32).toBitVec.getLsbD i = false := by
    show (0#32).getLsbD i = false
    simp
  rw [this, Bool.false_or]
/-- those of l that are not in m -/
def dfl (l m : List Nat) : List Nat := l.filter (fun p => !m.contains p)
theorem dfl_in {l m : List Nat} {p : Nat} : p ∈ dfl l m ↔ p ∈ l ∧ p ∉ m := by
  unfold dfl
  rw [List.mem_filter]
  simp
theorem neg1_b : ∀ i, i < 32 → ((-1 : Int32).toBitVec).getLsbD i = true := by decide +kernel
theorem sd_eq {l m : List Nat} (hl : ∀ p ∈ l, p < 12) (hm : ∀ p ∈ m, p < 12) : setI l &&& (setI m ^^^ (-1)) = setI (dfl l m) := by
  apply Int32.toBitVec_inj.mp
  apply BitVec.eq_of_getLsbD_eq
  intro i hi
  rw [Int32.toBitVec_and, Int32.toBitVec_xor, BitVec.getLsbD_and, BitVec.getLsbD_xor, setI_b hl hi, setI_b hm hi, setI_b (fun p hp => hl p (dfl_in.mp hp).1) hi, neg1_b i hi]
  apply Bool.eq_iff_iff.mpr
  simp [dfl_in]
theorem nth_nil : ∀ i, i < 3 → nthS (setI []) i = -6 := by decide +kernel
theorem nth_one : ∀ q, q < 12 → ∀ i, i < 3 → nthS (setI [q]) i = if i = 0 then nI q else -6 := by decide +kernel
theorem cnt_nil : cntS (setI []) = 0 := by decide +kernel
theorem cnt_one : ∀ q, q < 12 → cntS (setI [q]) = 1 := by decide +kernel
/-- at most this one -/
theorem dfl_one {l m : List Nat} {s : Nat} (hn : l.Nodup) (h : ∀ p ∈ l, p ∈ m ∨ p = s) : dfl l m = if s ∈ l ∧ s ∉ m then [s] else [] := by
  have h1 : ∀ p ∈ dfl l m, p = s := fun p hp => by
    have := dfl_in.mp hp
    rcases h p this.1 with h | h
    · exact absurd h this.2
    · exact h
  have hn2 : (dfl l m).Nodup := hn.filter _
  split
  next hs =>
    have hs2 : s ∈ dfl l m := dfl_in.mpr hs
    cases hd : dfl l m with
    | nil => rw [hd] at hs2; cases hs2
    | cons x t =>
      have hx := h1 x (by rw [hd]; exact List.mem_cons_self)
      cases t with
      | nil => rw [hx]
      | cons y t =>
        have hy := h1 y (by rw [hd]; exact List.mem_cons_of_mem _ List.mem_cons_self)
        rw [hd, hx, hy] at hn2
        simp at hn2
  next hs =>
    rw [List.eq_nil_iff_forall_not_mem]
    intro p hp
    have e := h1 p hp
    rw [e] at hp
    exact hs (dfl_in.mp hp)
theorem nd_le : ∀ (l m : List Nat), l.Nodup → (∀ x ∈ l, x ∈ m) → l.length ≤ m.length
  | [], m, _, _ => Nat.zero_le _
  | x :: l, m, hn, h => by
    have hx := h x List.mem_cons_self
    rw [List.nodup_cons] at hn
    have := nd_le l (m.erase x) hn.2 (fun y hy => by
      refine (List.mem_erase_of_ne (fun e => ?_)).mpr (h y (List.mem_cons_of_mem _ hy))
      subst e
      exact hn.1 hy)
    rw [List.length_erase_of_mem hx] at this
    have h0 : 0 < m.length := List.length_pos_of_mem hx
    rw [List.length_cons]
    omega
/-- a list that is no longer, and has all but s of the other one, has at most one that is new -/
theorem dfl_le {hi lo : List Nat} {s : Nat} (n1 : hi.Nodup) (n2 : lo.Nodup) (hs : s ∈ hi) (hl : lo.length ≤ hi.length) (h : ∀ p ∈ hi, p ∈ lo ∨ p = s) : (dfl lo hi).length ≤ 1 := by
  have := nd_le (dfl lo hi ++ hi.erase s) lo (List.nodup_append.mpr ⟨n2.filter _, n1.erase s, fun x hx y hy e => by
      subst e
      exact (dfl_in.mp hx).2 (List.mem_of_mem_erase hy)⟩) (fun x hx => by
      rcases List.mem_append.mp hx with hx | hx
      · exact (dfl_in.mp hx).1
      · rcases h x (List.mem_of_mem_erase hx) with h | h
        · exact h
        · subst h
          exact absurd hx (List.Nodup.not_mem_erase n1))
  rw [List.length_append, List.length_erase_of_mem hs] at this
  have h0 : 0 < hi.length := List.length_pos_of_mem hs
  omega
theorem cnt_le1 {l : List Nat} (h : l.length ≤ 1) (hl : ∀ p ∈ l, p < 12) : cntS (setI l) ≤ 1 := by
  cases l with
  | nil => rw [cnt_nil]; omega
  | cons x t =>
    cases t with
    | nil => rw [cnt_one x (hl x List.mem_cons_self)]; omega
    | cons y t => simp at h
end
