/-! ===== rows of bits: sums reached ===== -/
/-- bit y of the row of words that begins at base -/
def bitA (f : Nat → Int64) (base y : Nat) : Bool := (uN (f (base + y / 64))).testBit (y % 64)
theorem tb_or (x y : Int64) (i : Nat) : (uN (x ||| y)).testBit i = ((uN x).testBit i || (uN y).testBit i) := by rw [uN_orL, Nat.testBit_or]
theorem tb_big (x : Int64) {i : Nat} (h : 64 ≤ i) : (uN x).testBit i = false := Nat.testBit_lt_two_pow (Nat.lt_of_lt_of_le (show uN x < 2 ^ 64 from uN_lt x) (Nat.pow_le_pow_right (show 0 < 2 by decide) h))
theorem tb_shr (x : Int64) {k : Nat} (hk : k < 64) (i : Nat) : (uN (x.toUInt64 >>> ((nI k).toInt64.toUInt64 &&& Int64.toUInt64 63)).toInt64).testBit i = (uN x).testBit (k + i) := by
  rw [uN_sk x hk, Nat.testBit_div_two_pow, Nat.add_comm]
theorem tb_shl (x : Int64) {k : Nat} (hk : k < 64) {i : Nat} (hi : i < 64) : (uN (x <<< ((nI k).toInt64 &&& 63))).testBit i = (decide (k ≤ i) && (uN x).testBit (i - k)) := by
  have h := wb_shl (uN x) hk
  rw [lN_uN] at h
  rw [h]
  have e : uN (lN (uN x * 2 ^ k)) = uN x * 2 ^ k % 2 ^ 64 := by
    show (BitVec.ofNat 64 _).toNat = _
    rw [BitVec.toNat_ofNat]
  rw [e, Nat.testBit_mod_two_pow, Nat.mul_comm, Nat.testBit_two_pow_mul]
  simp [hi]
