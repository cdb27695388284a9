/-! the characters of a number -/
section
set_option maxRecDepth 100000
def xN (x : Int64) : Nat := x.toUInt64.toNat
def shw (x : Int64) (k : Nat) : Int64 := (x.toUInt64 >>> ((nI (8 * k)).toInt64.toUInt64 &&& Int64.toUInt64 63)).toInt64
theorem sh_cnt : ∀ k, k < 8 → ((nI (8 * k)).toInt64.toUInt64 &&& Int64.toUInt64 63).toNat = 8 * k := by decide +kernel
theorem xN_shw (x : Int64) {k : Nat} (hk : k < 8) : xN (shw x k) = xN x / 256 ^ k := by
  unfold xN shw
  rw [UInt64.toUInt64_toInt64, UInt64.toNat_shiftRight, sh_cnt k hk, Nat.mod_eq_of_lt (by omega), Nat.shiftRight_eq_div_pow, Nat.pow_mul]
theorem xN_inj {x y : Int64} (h : xN x = xN y) : x = y := by
  unfold xN at h
  have h2 := UInt64.toNat_inj.mp h
  have h3 := congrArg UInt64.toInt64 h2
  exact h3
theorem xN_lt (x : Int64) : xN x < 2 ^ 64 := x.toUInt64.toNat_lt
theorem xN_lN {m : Nat} (h : m < 2 ^ 63) : xN (lN m) = m := by
  unfold xN lN
  have : (Int64.ofNat m).toUInt64 = UInt64.ofNat m := rfl
  rw [this, UInt64.toNat_ofNat']
  exact Nat.mod_eq_of_lt (by omega)
theorem shw_and (x : Int64) {k : Nat} (hk : k < 8) : shw x k &&& 255 = lN (xN x / 256 ^ k % 256) := by
  apply xN_inj
  rw [xN_lN (by omega), ← xN_shw x hk]
  unfold xN
  rw [Int64.toUInt64_and, UInt64.toNat_and]
  exact Nat.and_two_pow_sub_one_eq_mod _ 8
theorem shw_0 (x : Int64) : shw x 0 = x := by
  apply xN_inj
  rw [xN_shw x (by decide), Nat.pow_zero, Nat.div_one]
theorem shw_s (x : Int64) {k : Nat} (hk : k < 7) : shw (shw x k) 1 = shw x (k + 1) := by
  apply xN_inj
  rw [xN_shw _ (by decide), xN_shw x (by omega), xN_shw x (by omega), Nat.div_div_eq_div_mul, ← Nat.pow_add]
theorem shw_z (x : Int64) {k : Nat} (hk : k < 8) : shw x k = 0 ↔ xN x / 256 ^ k = 0 := by
  rw [← xN_shw x hk]
  constructor
  · intro h; rw [h]; rfl
  · intro h; exact xN_inj (h.trans rfl)
def cls (X : Nat) : Nat → Nat → Int32
  | 0, i => nI i
  | k + 1, i => if X / 256 ^ i = 0 then (if i = 0 then -2 else nI i) else if X / 256 ^ i % 256 < 33 ∨ 126 < X / 256 ^ i % 256 then -2 else cls X k (i + 1)

theorem cls_ok (X : Nat) : ∀ k i, i + k = 8 → (∀ j, j < i → 33 ≤ X / 256 ^ j % 256 ∧ X / 256 ^ j % 256 < 127) → cls X k i = -2 ∨ ∃ n, 1 ≤ n ∧ n ≤ 8 ∧ cls X k i = nI n ∧ ∀ j, j < n → 33 ≤ X / 256 ^ j % 256 ∧ X / 256 ^ j % 256 < 127
  | 0, i, h, hb => Or.inr ⟨i, by omega, by omega, rfl, hb⟩
  | k + 1, i, h, hb => by
    unfold cls
    split
    · split
      · exact Or.inl rfl
      · exact Or.inr ⟨i, by omega, by omega, rfl, hb⟩
    · split
      · exact Or.inl rfl
      next h2 =>
        refine cls_ok X k (i + 1) (by omega) (fun j hj => ?_)
        by_cases e : j = i
        · subst e; omega
        · exact hb j (by omega)
theorem shw8 (r : Int64) : xN (r.toUInt64 >>> ((8 : Int32).toInt64.toUInt64 &&& Int64.toUInt64 63)).toInt64 = xN r / 256 := by
  have := xN_shw r (k := 1) (by decide)
  rw [Nat.pow_one] at this
  exact this
theorem and255 (r : Int64) : r &&& 255 = lN (xN r % 256) := by
  have := shw_and r (k := 0) (by decide)
  rw [shw_0, Nat.pow_zero, Nat.div_one] at this
  exact this
theorem znl_2 {v : Value} {t : List Value} : znl (v :: zU :: t) 2 = true := rfl
theorem znl_4 {v w y : Value} {t : List Value} : znl (v :: w :: y :: zU :: t) 4 = true := rfl
theorem znl_5 {v w y u : Value} {x : Int32} {t : List Value} : znl (v :: w :: y :: u :: .int x :: t) 5 = true := rfl
theorem l33 : (33 : Int64) = lN 33 := rfl
theorem l126 : (126 : Int64) = lN 126 := rfl
section ZC
variable {Q : Option Value → zX → Prop} {X : zX}
theorem l_P_signsIn {x : Int64} : ∀ (j i : Nat) (r : Int64) (v5 v6 : Value), i + j = 8 → xN r = xN x / 256 ^ i → Ev 12 5 [.long x, zU, .long r, zU, .int (nI i), v5, v6] [] X Q = Q (some (.int (cls (xN x) j i))) X := by
  intro j
  induction j with
  | zero =>
    intro i r v5 v6 hi hr
    have e0 : (8 : Int32) ≤ nI i := by rw [show i = 8 by omega]; decide
    have e1 : ¬ nI i = 0 := by rw [show i = 8 by omega]; decide
    rw [e12_5]
    simp only [e12_0, e12_2, e12_6, e12_7, e12_8, e12_11, e12_13, e12_15, e12_18, e12_19, e12_22, e12_23, e12_25, e12_27, e12_30, e12_31, e12_34, e12_36, e12_39, e12_40, e12_43, e12_45, e12_46, e12_47, e12_49, e12_54, e12_57, e12_59, e12_62, e12_64, e12_67, e12_69, e12_3 znl_4, e12_1 znl_2, e12_50 znl_2, e12_51 znl_4, zgF, zgA, zgR, zisO, zpush, zopt_some, ↓reduceIte, List.getElem?_cons_succ, List.getElem?_cons_zero, beq_self_eq_true, true_and, and_true, Bool.true_and, Bool.and_true, Bool.false_and, Bool.and_false, nI_1, not_true_eq_false, not_false_eq_true, vp_narI, e0, e1, cls, not_false_eq_true, ite_self]
  | succ j ih =>
    intro i r v5 v6 hi hr
    have e0 : ¬ (8 : Int32) ≤ nI i := nI_ge (b := 8) (by omega) (by omega)
    rw [e12_5, cls]
    by_cases h0 : xN x / 256 ^ i = 0
    · have : r = 0 := xN_inj ((hr.trans h0).trans rfl)
      have e2 : lg_cmp r 0 = 0 := (lg_cmp_eq _ _).mpr this
      by_cases hi0 : i = 0
      · subst hi0
        have e1 : nI 0 = 0 := rfl
        simp only [e12_0, e12_2, e12_6, e12_7, e12_8, e12_11, e12_13, e12_15, e12_18, e12_19, e12_22, e12_23, e12_25, e12_27, e12_30, e12_31, e12_34, e12_36, e12_39, e12_40, e12_43, e12_45, e12_46, e12_47, e12_49, e12_54, e12_57, e12_59, e12_62, e12_64, e12_67, e12_69, e12_3 znl_4, e12_1 znl_2, e12_50 znl_2, e12_51 znl_4, zgF, zgA, zgR, zisO, zpush, zopt_some, ↓reduceIte, List.getElem?_cons_succ, List.getElem?_cons_zero, beq_self_eq_true, true_and, and_true, Bool.true_and, Bool.and_true, Bool.false_and, Bool.and_false, nI_1, not_true_eq_false, not_false_eq_true, vp_narI, e0, e1, e2, h0]
      · have e1 : ¬ nI i = 0 := nI_ne0 (by omega) (by omega)
        simp only [e12_0, e12_2, e12_6, e12_7, e12_8, e12_11, e12_13, e12_15, e12_18, e12_19, e12_22, e12_23, e12_25, e12_27, e12_30, e12_31, e12_34, e12_36, e12_39, e12_40, e12_43, e12_45, e12_46, e12_47, e12_49, e12_54, e12_57, e12_59, e12_62, e12_64, e12_67, e12_69, e12_3 znl_4, e12_1 znl_2, e12_50 znl_2, e12_51 znl_4, zgF, zgA, zgR, zisO, zpush, zopt_some, ↓reduceIte, List.getElem?_cons_succ, List.getElem?_cons_zero, beq_self_eq_true, true_and, and_true, Bool.true_and, Bool.and_true, Bool.false_and, Bool.and_false, nI_1, not_true_eq_false, not_false_eq_true, vp_narI, e0, e1, e2, h0, hi0, not_false_eq_true]
    · have e2 : ¬ lg_cmp r 0 = 0 := fun h => h0 (by rw [← hr, (lg_cmp_eq _ _).mp h]; rfl)
      have hm : xN x / 256 ^ i % 256 < 256 := Nat.mod_lt _ (by decide)
      have e3 : r &&& 255 = lN (xN x / 256 ^ i % 256) := by rw [and255, hr]
      have e4 : (lg_cmp (lN (xN x / 256 ^ i % 256)) 33 < 0) = (xN x / 256 ^ i % 256 < 33) := propext ((lg_cmp_lt _ _).trans (by rw [l33]; exact pk_lLT (by omega) (by omega)))
      have e5 : (lg_cmp (lN (xN x / 256 ^ i % 256)) 126 ≤ 0) = (xN x / 256 ^ i % 256 ≤ 126) := propext ((lg_cmp_le _ _).trans (by rw [l126]; exact pk_lLE (by omega) (by omega)))
      rw [if_neg h0]
      by_cases h1 : xN x / 256 ^ i % 256 < 33
      · simp only [e12_0, e12_2, e12_6, e12_7, e12_8, e12_11, e12_13, e12_15, e12_18, e12_19, e12_22, e12_23, e12_25, e12_27, e12_30, e12_31, e12_34, e12_36, e12_39, e12_40, e12_43, e12_45, e12_46, e12_47, e12_49, e12_54, e12_57, e12_59, e12_62, e12_64, e12_67, e12_69, e12_3 znl_4, e12_1 znl_2, e12_50 znl_2, e12_51 znl_4, zgF, zgA, zgR, zisO, zpush, zopt_some, ↓reduceIte, List.getElem?_cons_succ, List.getElem?_cons_zero, beq_self_eq_true, true_and, and_true, Bool.true_and, Bool.and_true, Bool.false_and, Bool.and_false, nI_1, not_true_eq_false, not_false_eq_true, vp_narI, e0, e2, e3, e4, h1, true_or]
      · by_cases h2 : xN x / 256 ^ i % 256 ≤ 126
        · rw [if_neg (by omega), ← ih (i + 1) _ (.long (lN (xN x / 256 ^ i % 256))) zU (by omega) (by rw [shw8, hr, Nat.div_div_eq_div_mul, Nat.pow_succ])]
          simp only [e12_0, e12_2, e12_6, e12_7, e12_8, e12_11, e12_13, e12_15, e12_18, e12_19, e12_22, e12_23, e12_25, e12_27, e12_30, e12_31, e12_34, e12_36, e12_39, e12_40, e12_43, e12_45, e12_46, e12_47, e12_49, e12_54, e12_57, e12_59, e12_62, e12_64, e12_67, e12_69, e12_3 znl_4, e12_1 znl_2, e12_50 znl_2, e12_51 znl_4, zgF, zgA, zgR, zisO, zpush, zopt_some, ↓reduceIte, List.getElem?_cons_succ, List.getElem?_cons_zero, beq_self_eq_true, true_and, and_true, Bool.true_and, Bool.and_true, Bool.false_and, Bool.and_false, nI_1, not_true_eq_false, not_false_eq_true, vp_narI, e0, e2, e3, e4, e5, h1, h2]
        · rw [if_pos (by omega)]
          simp only [e12_0, e12_2, e12_6, e12_7, e12_8, e12_11, e12_13, e12_15, e12_18, e12_19, e12_22, e12_23, e12_25, e12_27, e12_30, e12_31, e12_34, e12_36, e12_39, e12_40, e12_43, e12_45, e12_46, e12_47, e12_49, e12_54, e12_57, e12_59, e12_62, e12_64, e12_67, e12_69, e12_3 znl_4, e12_1 znl_2, e12_50 znl_2, e12_51 znl_4, zgF, zgA, zgR, zisO, zpush, zopt_some, ↓reduceIte, List.getElem?_cons_succ, List.getElem?_cons_zero, beq_self_eq_true, true_and, and_true, Bool.true_and, Bool.and_true, Bool.false_and, Bool.and_false, nI_1, not_true_eq_false, not_false_eq_true, vp_narI, e0, e2, e3, e4, e5, h1, h2]
theorem c_P_signsIn {x : Int64} : Ev 12 0 [.long x, zU, zU, zU, zU, zU, zU] [] X Q = Q (some (.int (cls (xN x) 8 0))) X := by
  refine Eq.trans ?_ (l_P_signsIn 8 0 x zU zU (by omega) (by rw [Nat.pow_zero, Nat.div_one]))
  simp only [e12_0, e12_2, e12_6, e12_7, e12_8, e12_11, e12_13, e12_15, e12_18, e12_19, e12_22, e12_23, e12_25, e12_27, e12_30, e12_31, e12_34, e12_36, e12_39, e12_40, e12_43, e12_45, e12_46, e12_47, e12_49, e12_54, e12_57, e12_59, e12_62, e12_64, e12_67, e12_69, e12_3 znl_4, e12_1 znl_2, e12_50 znl_2, e12_51 znl_4, zgF, zgA, zgR, zisO, zpush, zopt_some, ↓reduceIte, List.getElem?_cons_succ, List.getElem?_cons_zero, beq_self_eq_true, true_and, and_true, Bool.true_and, Bool.and_true, Bool.false_and, Bool.and_false, nI_1, not_true_eq_false, not_false_eq_true, vp_narI]
  rfl
end ZC
end
