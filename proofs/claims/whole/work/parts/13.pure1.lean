/-! ===== what bytes are, what a letter is worth ===== -/
abbrev cap (b : Int32) : Prop := 65 ≤ b.toInt ∧ b.toInt ≤ 90
abbrev letr (b : Int32) : Prop := (65 ≤ b.toInt ∧ b.toInt ≤ 90) ∨ (97 ≤ b.toInt ∧ b.toInt ≤ 122)
abbrev okb (b : Nat) : Prop := b = 32 ∨ b = 63 ∨ (65 ≤ b ∧ b ≤ 90) ∨ (97 ≤ b ∧ b ≤ 122)
theorem uN_lN {n : Nat} (h : n < 2 ^ 64) : uN (lN n) = n := by
  show (BitVec.ofNat 64 n).toNat = n
  rw [BitVec.toNat_ofNat, Nat.mod_eq_of_lt h]
theorem lN_uN (x : Int64) : lN (uN x) = x := uN_inj (uN_lN (uN_lt x))
def byt (v : Int64) (k : Nat) : Nat := uN v / 2 ^ (8 * k) % 256
theorem byt_lt (v : Int64) (k : Nat) : byt v k < 256 := Nat.mod_lt _ (by decide)
theorem byt_x (v : Int64) {k : Nat} (hk : k < 8) : ((v.toUInt64 >>> ((nI (8 * k)).toInt64.toUInt64 &&& Int64.toUInt64 63)).toInt64).toInt32 &&& nI 255 = nI (byt v k) := by
  have h : (v.toUInt64 >>> ((nI (8 * k)).toInt64.toUInt64 &&& Int64.toUInt64 63)).toInt64 = lN (uN v / 2 ^ (8 * k)) := by
    apply uN_inj
    rw [uN_sk v (by omega), uN_lN (Nat.lt_of_le_of_lt (Nat.div_le_self _ _) (uN_lt v))]
  rw [h, lN_i, show nI 255 = nI (2 ^ 8 - 1) from rfl, fa_mask]
  rfl
def wv (f : Nat → Int32) (n c : Nat) (b a : Int32) : Int32 := if ¬ letr b ∨ (1 ≤ n ∧ ¬ cap b) ∨ (2 ≤ n ∧ b.toInt = a.toInt) then nI 0 else f (26 * c + (b.toInt - (if cap b then 65 else 97)).toNat)
theorem wv_0 {f : Nat → Int32} {n c : Nat} {b a : Int32} (h : ¬ letr b ∨ (1 ≤ n ∧ ¬ cap b) ∨ (2 ≤ n ∧ b.toInt = a.toInt)) : nI 0 = wv f n c b a := by unfold wv; rw [if_pos h]
theorem wv_c {f : Nat → Int32} {n c j : Nat} {a : Int32} (hj : j < 123) (h : cap (nI j)) (h2 : ¬ (2 ≤ n ∧ (nI j).toInt = a.toInt)) : f (c * 26 + j - 65) = wv f n c (nI j) a := by
  have e : (nI j).toInt = (j : Int) := nI_toInt (by omega)
  unfold wv
  rw [if_neg (by omega), if_pos h, e]
  congr 1
  omega
theorem wv_l {f : Nat → Int32} {n c j : Nat} {a : Int32} (hj : j < 123) (h0 : letr (nI j)) (h : ¬ cap (nI j)) (h2 : ¬ 1 ≤ n) : f (c * 26 + j - 97) = wv f n c (nI j) a := by
  have e : (nI j).toInt = (j : Int) := nI_toInt (by omega)
  unfold wv
  rw [if_neg (by omega), if_neg h, e]
  congr 1
  omega
/-- what stands ahead of place i of a text that begins at fr -/
def ahd (t : Nat → Int32) (fr : Nat) : Nat → Int32
  | 0 => nI 32
  | k + 1 => t (fr + k)
def smv (f : Nat → Int32) (n c : Nat) (t : Nat → Int32) (fr : Nat) : Nat → Int32
  | 0 => nI 0
  | k + 1 => smv f n c t fr k + wv f n c (t (fr + k)) (ahd t fr k)
abbrev mcy (nx so : Nat → Int32) (b v : Nat) : Prop := (nx b >>> (so v &&& 31)) &&& nI 1 = nI 1
abbrev wordy (t : Nat → Int32) (L : Nat) : Prop := (1 ≤ L ∧ L ≤ 8) ∧ ∀ k, k < L → letr (t k)
/-- broken letters among the first bytes -/
def brk (t : Nat → Int32) : Nat → Nat
  | 0 => 0
  | k + 1 => brk t k + (if (t k).toInt = 63 then 1 else 0)
theorem brk_y {t : Nat → Int32} {i : Nat} (h : (t i).toInt = ((63 : Nat) : Int)) : brk t i + 1 = brk t (i + 1) := by
  show _ = brk t i + (if (t i).toInt = 63 then 1 else 0)
  rw [if_pos (by omega)]
theorem brk_n {t : Nat → Int32} {i : Nat} (h : ¬ (t i).toInt = ((63 : Nat) : Int)) : brk t i = brk t (i + 1) := by
  show _ = brk t i + (if (t i).toInt = 63 then 1 else 0)
  rw [if_neg (by omega)]; rfl
theorem brk_le (t : Nat → Int32) : ∀ k, brk t k ≤ k
  | 0 => Nat.le_refl 0
  | k + 1 => by have := brk_le t k; show brk t k + (if (t k).toInt = 63 then 1 else 0) ≤ _; split <;> omega
