/-! the characters of a number -/
section
set_option maxRecDepth 100000
def xN (x : Int64) : Nat := x.toUInt64.toNat
def shw (x : Int64) (k : Nat) : Int64 := (x.toUInt64 >>> ((nI (8 * k)).toInt64.toUInt64 &&& Int64.toUInt64 63)).toInt64
theorem sh_cnt : ∀ k, k < 8 → ((nI (8 * k)).toInt64.toUInt64 &&& Int64.toUInt64 63).toNat = 8 * k := by decide +kernel
theorem xN_shw (x : Int64) {k : Nat} (hk : k < 8) : xN (shw x k) = xN x / 256 ^ k := by
  unfold xN shw
  rw [UInt64.toUInt64_toInt64, UInt64.toNat_shiftRight, sh_cnt k hk, Nat.mod_eq_of_lt (by omega), Nat.shiftRight_eq_div_pow, Nat.pow_mul]
theorem xN_inj {x y : Int64} (h : xN x = xN y) : x = y := by
  unfold xN at h
  have := UInt64.toNat_inj.mp h
  exact Int64.toUInt64_inj.mp this
theorem xN_lt (x : Int64) : xN x < 2 ^ 64 := x.toUInt64.toNat_lt
theorem xN_lN {m : Nat} (h : m < 2 ^ 63) : xN (lN m) = m := by
  unfold xN lN
  have : (Int64.ofNat m).toUInt64 = UInt64.ofNat m := rfl
  rw [this, UInt64.toNat_ofNat']
  exact Nat.mod_eq_of_lt (by omega)
theorem shw_and (x : Int64) {k : Nat} (hk : k < 8) : shw x k &&& 255 = lN (xN x / 256 ^ k % 256) := by
  apply xN_inj
  rw [xN_lN (by omega), ← xN_shw x hk]
  unfold xN
  rw [Int64.toUInt64_and, UInt64.toNat_and]
  exact Nat.and_two_pow_sub_one_eq_mod _ 8
theorem shw_0 (x : Int64) : shw x 0 = x := by
  apply xN_inj
  rw [xN_shw x (by decide), Nat.pow_zero, Nat.div_one]
theorem shw_s (x : Int64) {k : Nat} (hk : k < 7) : shw (shw x k) 1 = shw x (k + 1) := by
  apply xN_inj
  rw [xN_shw _ (by decide), xN_shw x (by omega), xN_shw x (by omega), Nat.div_div_eq_div_mul, Nat.pow_succ, Nat.pow_one]
theorem shw_z (x : Int64) {k : Nat} (hk : k < 8) : shw x k = 0 ↔ xN x / 256 ^ k = 0 := by
  rw [← xN_shw x hk]
  constructor
  · intro h; rw [h]; rfl
  · intro h; exact xN_inj (h.trans rfl)
def cls (X : Nat) : Nat → Nat → Int32
  | 0, i => nI i
  | k + 1, i => if X / 256 ^ i = 0 then (if i = 0 then -2 else nI i) else if X / 256 ^ i % 256 < 33 ∨ 126 < X / 256 ^ i % 256 then -2 else cls X k (i + 1)
end
