/-! loads, counts and fair shares together -/
section
set_option maxRecDepth 100000
section SU
variable {a : Nat → Int32} {s : Nat}
/-- how many of the first k objects have a copy on s -/
def ldN (a : Nat → Int32) (s : Nat) : Nat → Nat
  | 0 => 0
  | k + 1 => ldN a s k + (if s ∈ plK a k then 1 else 0)
theorem ldN_le (a : Nat → Int32) (s : Nat) : ∀ k, ldN a s k ≤ k
  | 0 => Nat.le_refl _
  | k + 1 => by
    have := ldN_le a s k
    unfold ldN
    split <;> omega
theorem plK_nd (a : Nat → Int32) (k : Nat) : (plK a k).Nodup := plc_nd _ _
theorem plK_pt (hg : zG a) (k : Nat) : ∀ p ∈ plK a k, pt a p = true := plc_pt hg _ _
theorem incs_nd : ∀ (l : List Nat) (f : Nat → Int32), l.Nodup → incs f l s = f s + (if s ∈ l then 1 else 0)
  | [], f, _ => by
    show f s = _
    simp
  | p :: l, f, hn => by
    rw [List.nodup_cons] at hn
    show incs (upd f p (f p + 1)) l s = _
    rw [incs_nd l _ hn.2]
    by_cases e : s = p
    · subst e
      rw [upd_s, if_neg hn.1, if_pos List.mem_cons_self, Int32.add_zero]
    · rw [upd_n e]
      congr 1
      simp [e]
theorem ldF_N (a : Nat → Int32) (s : Nat) : ∀ k, ldF a k s = nI (ldN a s k)
  | 0 => rfl
  | k + 1 => by
    show incs (ldF a k) (plK a k) s = _
    rw [incs_nd _ _ (plK_nd _ _), ldF_N a s k]
    show nI (ldN a s k) + _ = nI (ldN a s k + (if s ∈ plK a k then 1 else 0))
    split
    · exact nI_1 _
    · exact Int32.add_zero _
/-- as many copies as COPIES and racks allow -/
def cps (a : Nat → Int32) : Nat := min (gN a 0) (dif (Mk a (gN a 2)) 0)
theorem plK_len (hg : zG a) (k : Nat) : (plK a k).length = cps a := plc_len hg _ _
theorem tot_N (hg : zG a) : ∀ k, tot a k = nI (cps a * k)
  | 0 => rfl
  | k + 1 => by
    show tot a k + nI (plK a k).length = _
    rw [tot_N hg k, plK_len hg, nI_add, Nat.mul_succ]
theorem nbl_N (hg : zG a) : ∀ k, nbl a (a 0) k = nI (if cps a < gN a 0 then k else 0)
  | 0 => by
    show (0 : Int32) = _
    split <;> rfl
  | k + 1 => by
    show nbl a (a 0) k + (if nI (plK a k).length < a 0 then 1 else 0) = _
    have c3 := hg.1.2.2
    have h : nI (plK a k).length < a 0 ↔ cps a < gN a 0 := by
      rw [plK_len hg, hg.1.1]
      exact nI_ltI (by unfold cps; omega) (by omega)
    rw [nbl_N hg k]
    by_cases e : cps a < gN a 0
    · rw [if_pos e, if_pos e, if_pos (h.mpr e)]
      exact nI_1 _
    · rw [if_neg e, if_neg e, if_neg (fun q => e (h.mp q))]
      exact Int32.add_zero _
/-- the loads of the first i servers together -/
def sld (a : Nat → Int32) (k : Nat) : Nat → Nat
  | 0 => 0
  | i + 1 => sld a k i + ldN a i k
def cin (l : List Nat) : Nat → Nat
  | 0 => 0
  | i + 1 => cin l i + (if i ∈ l then 1 else 0)
theorem sld_s (a : Nat → Int32) (k : Nat) : ∀ i, sld a (k + 1) i = sld a k i + cin (plK a k) i
  | 0 => rfl
  | i + 1 => by
    unfold sld cin
    rw [sld_s a k i]
    show sld a k i + cin (plK a k) i + (ldN a i k + (if i ∈ plK a k then 1 else 0)) = _
    omega
theorem cin_f (l : List Nat) : ∀ i, cin l i = ((List.range i).filter (fun s => l.contains s)).length
  | 0 => rfl
  | i + 1 => by
    unfold cin
    rw [cin_f l i, List.range_succ, List.filter_append, List.length_append]
    congr 1
    by_cases e : i ∈ l
    · simp [e]
    · simp [e]
theorem cin_all {l : List Nat} {n : Nat} (hn : l.Nodup) (hl : ∀ p ∈ l, p < n) : cin l n = l.length := by
  rw [cin_f]
  apply Nat.le_antisymm
  · exact nd_le _ _ (List.nodup_range.filter _) (fun x hx => by simpa using (List.mem_filter.mp hx).2)
  · exact nd_le _ _ hn (fun x hx => List.mem_filter.mpr ⟨List.mem_range.mpr (hl x hx), by simpa using hx⟩)
theorem sld_all (hg : zG a) : ∀ k, sld a k (gN a 2) = cps a * k
  | 0 => by
    have : ∀ i, sld a 0 i = 0 := fun i => by
      induction i with
      | zero => rfl
      | succ i ih => unfold sld; rw [ih]; rfl
    rw [this, Nat.mul_zero]
  | k + 1 => by
    rw [sld_s, sld_all hg k, cin_all (plK_nd _ _) (fun p hp => (pt_ex (plK_pt hg _ p hp)).1)]
    show _ + (plK a k).length = _
    rw [plK_len hg, Nat.mul_succ]
def ntN (a : Nat → Int32) : Nat → Nat
  | 0 => 0
  | i + 1 => ntN a i + (if tp a i = true then 1 else 0)
theorem ntp_N (a : Nat → Int32) : ∀ i, ntp a i = nI (ntN a i)
  | 0 => rfl
  | i + 1 => by
    unfold ntp ntN
    rw [ntp_N a i]
    split
    · exact nI_1 _
    · exact Int32.add_zero _
theorem ntN_le (a : Nat → Int32) : ∀ i, ntN a i ≤ i
  | 0 => Nat.le_refl _
  | i + 1 => by
    have := ntN_le a i
    unfold ntN
    split <;> omega
/-- a server's fair share, in numbers -/
def fsN (a : Nat → Int32) (s : Nat) : Nat := if tp a s = true then 1000 * (cps a * gN a 3) * gN a (17 + s) / wsN a (gN a 2) else 0
theorem cps_le (hg : zG a) : cps a * gN a 3 ≤ 120 := by
  have h1 : cps a ≤ 3 := by have := hg.1.2.2; unfold cps; omega
  have h2 := hg.2.2.2.1.2
  exact Nat.mul_le_mul h1 h2
theorem fsh_N (hg : zG a) (hs : s < gN a 2) : fsh a s = nI (fsN a s) := by
  have b2 := hg.2.2.1.2
  unfold fsh fsN
  split
  next h =>
    obtain ⟨w1, w2, w3⟩ := zG_w hg hs
    obtain ⟨q1, q2⟩ := wsum_N hg (gN a 2) (Nat.le_refl _)
    have q3 := wsN_le h (gN a 2) hs
    have c := cps_le hg
    have w4 := w3 h
    have hb : 1000 * (cps a * gN a 3) * gN a (17 + s) ≤ 120000 * 16 := Nat.mul_le_mul (by omega) w2
    rw [tot_N hg, w1, q1, show (1000 : Int32) = nI 1000 from rfl, pk_mul, pk_mul, pk_div (by omega) (by omega) (by omega)]
  next => rfl
def sfs (a : Nat → Int32) : Nat → Nat
  | 0 => 0
  | i + 1 => sfs a i + fsN a i
theorem sfs_b (hg : zG a) (hW : 0 < wsN a (gN a 2)) : ∀ i, i ≤ gN a 2 → wsN a (gN a 2) * sfs a i ≤ 1000 * (cps a * gN a 3) * wsN a i ∧ 1000 * (cps a * gN a 3) * wsN a i ≤ wsN a (gN a 2) * (sfs a i + ntN a i)
  | 0, _ => by
    constructor
    · show _ * 0 ≤ _; omega
    · show _ * 0 ≤ _; omega
  | i + 1, hi => by
    obtain ⟨h1, h2⟩ := sfs_b hg hW i (by omega)
    have es : sfs a (i + 1) = sfs a i + fsN a i := rfl
    have ew : wsN a (i + 1) = wsN a i + (if tp a i = true then gN a (17 + i) else 0) := rfl
    have en : ntN a (i + 1) = ntN a i + (if tp a i = true then 1 else 0) := rfl
    rw [es, ew, en]
    unfold fsN
    generalize 1000 * (cps a * gN a 3) = T at *
    generalize wsN a (gN a 2) = W at *
    by_cases h : tp a i = true
    · have q1 := Nat.div_mul_le_self (T * gN a (17 + i)) W
      have q2 := Nat.lt_div_mul_add (a := T * gN a (17 + i)) hW
      simp only [h, ↓reduceIte]
      generalize T * gN a (17 + i) / W = q at *
      rw [Nat.mul_add, Nat.mul_add, show sfs a i + q + (ntN a i + 1) = sfs a i + ntN a i + (q + 1) by omega, Nat.mul_add W _ (q + 1), Nat.mul_add W q 1, Nat.mul_comm W q, Nat.mul_one]
      omega
    · simp only [h, Bool.false_eq_true, ↓reduceIte, Nat.add_zero]
      exact ⟨h1, h2⟩
theorem sfs_ok (hg : zG a) : sfs a (gN a 2) ≤ 1000 * (cps a * gN a 3) ∧ 1000 * (cps a * gN a 3) ≤ sfs a (gN a 2) + ntN a (gN a 2) := by
  by_cases hW : 0 < wsN a (gN a 2)
  · obtain ⟨h1, h2⟩ := sfs_b hg hW (gN a 2) (Nat.le_refl _)
    rw [Nat.mul_comm (1000 * (cps a * gN a 3))] at h1 h2
    exact ⟨Nat.le_of_mul_le_mul_left h1 hW, Nat.le_of_mul_le_mul_left h2 hW⟩
  · have hn : ∀ s, s < gN a 2 → ¬ tp a s = true := fun s hs h => by
      have q3 := wsN_le h (gN a 2) hs
      have := (zG_w hg hs).2.2 h
      omega
    have e1 : dif (Mk a (gN a 2)) 0 = 0 := dif_0 (fun r hr h => by
      obtain ⟨s, h1, -⟩ := Mk_ex hg hr h
      have := pt_ex h1
      exact absurd this.2 (hn s this.1))
    have e2 : cps a = 0 := by unfold cps; rw [e1]; omega
    have e3 : ∀ i, i ≤ gN a 2 → sfs a i = 0 := fun i => by
      induction i with
      | zero => intro _; rfl
      | succ i ih =>
        intro hi
        unfold sfs fsN
        rw [ih (by omega), if_neg (hn i (by omega))]
    rw [e2, e3 _ (Nat.le_refl _)]
    omega
/-- objects that are lost with more -/
theorem and_or0 {x g d : Int32} (h : x &&& (g ^^^ (-1)) = 0) : x &&& ((g ||| d) ^^^ (-1)) = 0 := by
  apply Int32.toBitVec_inj.mp
  apply BitVec.eq_of_getLsbD_eq
  intro i hi
  have h2 := congrArg (fun y : Int32 => y.toBitVec.getLsbD i) h
  simp only [Int32.toBitVec_and, Int32.toBitVec_xor, Int32.toBitVec_or, BitVec.getLsbD_and, BitVec.getLsbD_xor, BitVec.getLsbD_or, neg1_b i hi] at h2 ⊢
  have h3 : (0 : Int32).toBitVec.getLsbD i = false := by
    show (0#32).getLsbD i = false
    simp
  rw [h3] at h2 ⊢
  cases hx : x.toBitVec.getLsbD i with
  | false => simp
  | true =>
    rw [hx] at h2
    cases hgb : g.toBitVec.getLsbD i with
    | false => rw [hgb] at h2; simp at h2
    | true => simp
def lwN (a : Nat → Int32) (g : Int32) : Nat → Nat
  | 0 => 0
  | k + 1 => lwN a g k + (if setI (plK a k) &&& (g ^^^ (-1)) = 0 then 1 else 0)
theorem lwc_N (a : Nat → Int32) (g : Int32) : ∀ k, lwc a g k = nI (lwN a g k)
  | 0 => rfl
  | k + 1 => by
    unfold lwc lwN
    rw [lwc_N a g k]
    split
    · exact nI_1 _
    · exact Int32.add_zero _
theorem lwN_le (a : Nat → Int32) (g : Int32) : ∀ k, lwN a g k ≤ k
  | 0 => Nat.le_refl _
  | k + 1 => by
    have := lwN_le a g k
    unfold lwN
    split <;> omega
theorem lwN_mono (a : Nat → Int32) (g d : Int32) : ∀ k, lwN a g k ≤ lwN a (g ||| d) k
  | 0 => Nat.le_refl _
  | k + 1 => by
    have := lwN_mono a g d k
    unfold lwN
    by_cases h : setI (plK a k) &&& (g ^^^ (-1)) = 0
    · rw [if_pos h, if_pos (and_or0 h)]; omega
    · rw [if_neg h]
      split <;> omega
theorem qLw_le (hg : zG a) (h0 : 0 < gN a 2) : qLw a 0 0 ≤ qLw a 0 (nI (gN a 2 - 1)) := by
  have b2 := hg.2.2.1.2
  have b3 := hg.2.2.2.1.2
  have z0 : zinb 0 (gN a 2) = true := zinb_nI (k := 0) h0 (by omega)
  have z1 : zinb (nI (gN a 2 - 1)) (gN a 2) = true := zinb_nI (by omega) (by omega)
  unfold qLw
  rw [if_pos ⟨z0, z0⟩, if_pos ⟨z0, z1⟩, or_self3, lwc_N, lwc_N]
  exact nI_le (lwN_mono _ _ _ _) (Nat.lt_of_le_of_lt (lwN_le _ _ _) (by omega))
end SU
end
