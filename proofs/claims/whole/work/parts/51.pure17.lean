/-- a word of the row at fr, shifted up by b -/
def shw (r : Nat → Int64) (fr b k : Nat) : Int64 := if 0 < b % 64 ∧ 0 < k - b / 64 then (r (fr + (k - b / 64)) <<< ((nI (b % 64)).toInt64 &&& 63)) ||| ((r (fr + (k - b / 64) - 1)).toUInt64 >>> ((nI (64 - b % 64)).toInt64.toUInt64 &&& Int64.toUInt64 63)).toInt64 else r (fr + (k - b / 64)) <<< ((nI (b % 64)).toInt64 &&& 63)
theorem shw_y {r : Nat → Int64} {fr b k : Nat} (h : 0 < b % 64) (h2 : 0 < k - b / 64) : (r (fr + (k - b / 64)) <<< ((nI (b % 64)).toInt64 &&& 63)) ||| ((r (fr + (k - b / 64) - 1)).toUInt64 >>> ((nI (64 - b % 64)).toInt64.toUInt64 &&& Int64.toUInt64 63)).toInt64 = shw r fr b k := by unfold shw; rw [if_pos ⟨h, h2⟩]
theorem shw_n {r : Nat → Int64} {fr b k : Nat} (h : ¬ (0 < b % 64 ∧ 0 < k - b / 64)) : r (fr + (k - b / 64)) <<< ((nI (b % 64)).toInt64 &&& 63) = shw r fr b k := by unfold shw; rw [if_neg h]
/-- the row nr with the row r at fr, shifted up by b, brought in at w, up to word k -/
def asf (nr r : Nat → Int64) (fr w b k : Nat) : Nat → Int64 := fun j => if w + b / 64 ≤ j ∧ j < w + k then nr j ||| shw r fr b (j - w) else nr j
theorem asf_0 (nr r : Nat → Int64) (fr w b k : Nat) (h : k ≤ b / 64) : asf nr r fr w b k = nr := by
  funext j; unfold asf; rw [if_neg (by omega)]
theorem asf_k (nr r : Nat → Int64) (fr w b k : Nat) : asf nr r fr w b k (w + k) = nr (w + k) := by unfold asf; rw [if_neg (by omega)]
theorem asf_s (nr r : Nat → Int64) (fr w b k : Nat) (h : b / 64 ≤ k) : vp_updL (asf nr r fr w b k) (w + k) (nr (w + k) ||| shw r fr b k) = asf nr r fr w b (k + 1) := by
  funext j
  unfold vp_updL asf
  by_cases e : j = w + k
  · rw [if_pos e, if_pos (by omega), e, Nat.add_sub_cancel_left]
  · rw [if_neg e]
    by_cases c : w + b / 64 ≤ j ∧ j < w + k
    · rw [if_pos c, if_pos (by omega)]
    · rw [if_neg c, if_neg (by omega)]
