/-! small sets: parts of places -/
section
set_option maxRecDepth 100000
theorem or_self3 (x : Int32) : x ||| x = x := by
  apply Int32.toBitVec_inj.mp
  rw [Int32.toBitVec_or, BitVec.or_self]
theorem okS_l {l : List Nat} (h : l.length ≤ 3) (hl : ∀ p ∈ l, p < 12) : okS (setI l) = true := by
  match l, h, hl with
  | [], _, _ => exact okS_0
  | [p], _, hl =>
    have := okS_3 p (hl p (by simp)) p (hl p (by simp)) p (hl p (by simp))
    have e : setI [p, p, p] = setI [p] := by
      show ((0 ||| _) ||| _) ||| _ = 0 ||| _
      rw [Int32.or_assoc, or_self3, Int32.or_assoc, or_self3]
    rw [e] at this; exact this
  | [p, q], _, hl =>
    have := okS_3 p (hl p (by simp)) q (hl q (by simp)) q (hl q (by simp))
    have e : setI [p, q, q] = setI [p, q] := by
      show ((0 ||| _) ||| _) ||| _ = (0 ||| _) ||| _
      rw [Int32.or_assoc, or_self3]
    rw [e] at this; exact this
  | [p, q, r], _, hl => exact okS_3 p (hl p (by simp)) q (hl q (by simp)) r (hl r (by simp))
theorem bit_and (p : Nat) (hp : p < 12) (B : Int32) : ((1 : Int32) <<< (nI p &&& 31)) &&& B = 0 ∨ ((1 : Int32) <<< (nI p &&& 31)) &&& B = (1 : Int32) <<< (nI p &&& 31) := by
  have e : ∀ p, p < 12 → ((1 : Int32) <<< (nI p &&& 31)).toBitVec = BitVec.twoPow 32 p := by decide +kernel
  have h := BitVec.and_twoPow B.toBitVec p
  by_cases hb : B.toBitVec.getLsbD p = true
  · right
    apply Int32.toBitVec_inj.mp
    rw [Int32.toBitVec_and, e p hp, BitVec.and_comm, h, if_pos hb]
  · left
    apply Int32.toBitVec_inj.mp
    rw [Int32.toBitVec_and, e p hp, BitVec.and_comm, h, if_neg hb]
    rfl
theorem or_and_d (x y B : Int32) : (x ||| y) &&& B = (x &&& B) ||| (y &&& B) := by
  apply Int32.toBitVec_inj.mp
  simp only [Int32.toBitVec_and, Int32.toBitVec_or]
  ext i
  simp only [BitVec.getElem_and, BitVec.getElem_or]
  exact Bool.and_or_distrib_right ..
theorem setI_go (B : Int32) : ∀ (l : List Nat) (S0 : Int32), (∀ p ∈ l, p < 12) → ∃ l' : List Nat, l'.length ≤ l.length ∧ (∀ p ∈ l', p < 12) ∧ (l.foldl (fun S p => S ||| ((1 : Int32) <<< (nI p &&& 31))) S0) &&& B = l'.foldl (fun S p => S ||| ((1 : Int32) <<< (nI p &&& 31))) (S0 &&& B)
  | [], S0, _ => ⟨[], Nat.le_refl _, fun p hp => (by cases hp), rfl⟩
  | p :: l, S0, hl => by
    obtain ⟨l', h1, h2, h3⟩ := setI_go B l (S0 ||| ((1 : Int32) <<< (nI p &&& 31))) (fun q hq => hl q (List.mem_cons_of_mem _ hq))
    have hp := hl p (List.mem_cons_self ..)
    rw [List.foldl_cons, h3, or_and_d]
    rcases bit_and p hp B with hb | hb
    · rw [hb]
      exact ⟨l', by simp; omega, h2, by rw [Int32.or_zero]⟩
    · rw [hb]
      exact ⟨p :: l', by simp; omega, fun q hq => by
        rcases List.mem_cons.mp hq with h | h
        · rw [h]; exact hp
        · exact h2 q h, rfl⟩
theorem setI_and {l : List Nat} (hl : ∀ p ∈ l, p < 12) (B : Int32) : ∃ l' : List Nat, l'.length ≤ l.length ∧ (∀ p ∈ l', p < 12) ∧ setI l &&& B = setI l' := by
  obtain ⟨l', h1, h2, h3⟩ := setI_go B l 0 hl
  rw [Int32.zero_and] at h3
  exact ⟨l', h1, h2, h3⟩
theorem okS_and {a : Nat → Int32} (hg : zG a) (k : Nat) (B : Int32) : okS (setI (plK a k) &&& B) = true := by
  obtain ⟨h1, h2⟩ := plK_ok hg k
  obtain ⟨l', h3, h4, h5⟩ := setI_and h1 B
  rw [h5]
  exact okS_l (by omega) h4
section ZC
variable {Q : Option Value → zX → Prop} {X : zX}
theorem c_Ji_bitCount {x : Int32} : Ev 61 0 [.int x] [] X Q = Q (some (.int (bcF x))) X := by
  simp only [e61_0, e61_1, e61_2, e61_3, e61_4, e61_7, e61_8, e61_9, e61_10, e61_11, e61_14, e61_15, e61_16, e61_17, e61_18, e61_21, e61_22, e61_23, e61_24, e61_25, e61_26, e61_27, e61_28, e61_29, e61_32, e61_33, e61_34, e61_35, e61_36, e61_38, e61_39, e61_40, e61_41, e61_42, e61_43, e61_45, e61_46, e61_47, e61_48, e61_49, e61_51, e61_52]
  rfl
end ZC
end
