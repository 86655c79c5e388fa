/-! ===== a byte by the signed shift ===== -/
theorem byt_sh (v : Int64) {k : Nat} (hk : k < 8) : (v >>> ((nI (8 * k)).toInt64 &&& 63)) &&& lN 255 = (v.toUInt64 >>> ((nI (8 * k)).toInt64.toUInt64 &&& Int64.toUInt64 63)).toInt64 &&& lN 255 := by
  apply wb_inj
  rw [Int64.toBitVec_and, Int64.toBitVec_and, wb_c (8 * k) (by omega), wb_cu (8 * k) (by omega), Int64.toBitVec_shiftRight, wb_tb, wb_sm (8 * k) (by omega), wb_tb]
  apply BitVec.eq_of_getLsbD_eq
  intro i hi
  have hL : (BitVec.ofNat 64 255).getLsbD i = decide (i < 8) := by
    rw [BitVec.getLsbD_ofNat]
    by_cases h : i < 8
    · have : ∀ j, j < 8 → Nat.testBit 255 j = true := by decide
      simp [h, this i h, hi]
    · have : Nat.testBit 255 i = false := Nat.testBit_lt_two_pow (Nat.lt_of_lt_of_le (by decide : 255 < 2 ^ 8) (Nat.pow_le_pow_right (by decide) (by omega)))
      simp [h, this]
  rw [BitVec.getLsbD_and, BitVec.getLsbD_and, hL]
  by_cases h : i < 8
  · simp only [h, decide_true, Bool.and_true]
    have e1 : (BitVec.ofNat 64 (8 * k)).toNat = 8 * k := by rw [BitVec.toNat_ofNat, Nat.mod_eq_of_lt (by omega)]
    rw [BitVec.sshiftRight_eq', e1, BitVec.getLsbD_sshiftRight]
    have e2 : (v.toUInt64 >>> UInt64.ofNat (8 * k)).toInt64.toBitVec = v.toBitVec >>> (8 * k) := by
      apply BitVec.eq_of_toNat_eq
      show (v.toUInt64 >>> UInt64.ofNat (8 * k)).toNat = _
      rw [UInt64.toNat_shiftRight, u_tn (by omega), Nat.mod_eq_of_lt (by omega), BitVec.toNat_ushiftRight]
      rfl
    rw [e2, BitVec.getLsbD_ushiftRight]
    rw [if_pos (by omega)]
    simp only [show ¬ 64 ≤ i by omega, decide_false, Bool.not_false, Bool.true_and]
  · simp [h]
theorem byt_m (v : Int64) {k : Nat} (hk : k < 8) : ((v >>> ((nI (8 * k)).toInt64 &&& 63)) &&& lN 255).toInt32 = nI (byt v k) := by
  have h : (v.toUInt64 >>> ((nI (8 * k)).toInt64.toUInt64 &&& Int64.toUInt64 63)).toInt64 = lN (uN v / 2 ^ (8 * k)) := by
    apply uN_inj
    rw [uN_sk v (by omega), uN_lN (Nat.lt_of_le_of_lt (Nat.div_le_self _ _) (uN_lt v))]
  rw [byt_sh v hk, h, show lN 255 = lN (2 ^ 8 - 1) from rfl, fb_maskL, lN_i]
  rfl
