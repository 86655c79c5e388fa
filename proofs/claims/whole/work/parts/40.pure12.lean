/-! ===== line: its answer ===== -/
theorem lN_of {x : Int64} (h : 0 ≤ x.toInt) : ∃ k : Nat, k < 2 ^ 63 ∧ x = lN k := pk_lOf (fun q => by rw [Int64.lt_iff_toInt_lt] at q; exact absurd q (by rw [show (0 : Int64).toInt = 0 from rfl]; omega))
theorem lz_toInt : (lN 0).toInt = 0 := by decide
def aLine (fe so nx : Nat → Int32) (ow : Nat → Nat) (nv : Nat) (ft y : Int32) (number : Int64) (i : Int32) : Int32 := if 0 ≤ number.toInt ∧ 0 ≤ i.toInt ∧ number.toInt.toNat < lwy fe so nx ow nv (tn ft) 3 (tn y) then lnf fe so nx ow nv 8 (tn ft) 3 (tn y) number.toInt.toNat (tn i) else (-2 : Int32)
