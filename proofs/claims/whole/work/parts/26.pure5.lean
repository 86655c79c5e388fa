/-! ===== the reference: its numbers, widened ===== -/
theorem cy_lt (x : Int32) {b : Nat} (hb : b < 2 ^ 63) : (lg_cmp x.toInt64 (lN b) < 0 → x.toInt < (b : Int)) ∧ (¬ lg_cmp x.toInt64 (lN b) < 0 → (b : Int) ≤ x.toInt) := by
  have q := cw_lt x.toInt64 (lN b)
  rw [w_toInt, cx_T hb] at q
  exact q
theorem cu_lt (x y : Int32) : (lg_cmp x.toInt64 y.toInt64 < 0 → x.toInt < y.toInt) ∧ (¬ lg_cmp x.toInt64 y.toInt64 < 0 → y.toInt ≤ x.toInt) := by
  have q := cw_lt x.toInt64 y.toInt64
  rw [w_toInt, w_toInt] at q
  exact q
theorem cy_ge (x : Int32) {b : Nat} (hb : b < 2 ^ 63) : (0 ≤ lg_cmp x.toInt64 (lN b) → (b : Int) ≤ x.toInt) ∧ (¬ 0 ≤ lg_cmp x.toInt64 (lN b) → x.toInt < (b : Int)) := by
  have q := cw_ge x.toInt64 (lN b)
  rw [w_toInt, cx_T hb] at q
  exact q
theorem cu_ge (x y : Int32) : (0 ≤ lg_cmp x.toInt64 y.toInt64 → y.toInt ≤ x.toInt) ∧ (¬ 0 ≤ lg_cmp x.toInt64 y.toInt64 → x.toInt < y.toInt) := by
  have q := cw_ge x.toInt64 y.toInt64
  rw [w_toInt, w_toInt] at q
  exact q
theorem cy_gt (x : Int32) {b : Nat} (hb : b < 2 ^ 63) : (0 < lg_cmp x.toInt64 (lN b) → (b : Int) < x.toInt) ∧ (¬ 0 < lg_cmp x.toInt64 (lN b) → x.toInt ≤ (b : Int)) := by
  have q := cw_gt x.toInt64 (lN b)
  rw [w_toInt, cx_T hb] at q
  exact q
theorem cu_gt (x y : Int32) : (0 < lg_cmp x.toInt64 y.toInt64 → y.toInt < x.toInt) ∧ (¬ 0 < lg_cmp x.toInt64 y.toInt64 → x.toInt ≤ y.toInt) := by
  have q := cw_gt x.toInt64 y.toInt64
  rw [w_toInt, w_toInt] at q
  exact q
theorem cy_le (x : Int32) {b : Nat} (hb : b < 2 ^ 63) : (lg_cmp x.toInt64 (lN b) ≤ 0 → x.toInt ≤ (b : Int)) ∧ (¬ lg_cmp x.toInt64 (lN b) ≤ 0 → (b : Int) < x.toInt) := by
  have q := cw_le x.toInt64 (lN b)
  rw [w_toInt, cx_T hb] at q
  exact q
theorem cu_le (x y : Int32) : (lg_cmp x.toInt64 y.toInt64 ≤ 0 → x.toInt ≤ y.toInt) ∧ (¬ lg_cmp x.toInt64 y.toInt64 ≤ 0 → y.toInt < x.toInt) := by
  have q := cw_le x.toInt64 y.toInt64
  rw [w_toInt, w_toInt] at q
  exact q
theorem cy_eq (x : Int32) {b : Nat} (hb : b < 2 ^ 63) : (lg_cmp x.toInt64 (lN b) = 0 → x.toInt = (b : Int)) ∧ (¬ lg_cmp x.toInt64 (lN b) = 0 → x.toInt ≠ (b : Int)) := by
  have q := cw_eq x.toInt64 (lN b)
  rw [w_toInt, cx_T hb] at q
  exact q
theorem cu_eq (x y : Int32) : (lg_cmp x.toInt64 y.toInt64 = 0 → x.toInt = y.toInt) ∧ (¬ lg_cmp x.toInt64 y.toInt64 = 0 → x.toInt ≠ y.toInt) := by
  have q := cw_eq x.toInt64 y.toInt64
  rw [w_toInt, w_toInt] at q
  exact q
theorem wv_c2 {f : Nat → Int32} {n c j : Nat} {a : Int32} (hj : j < 123) (h : cap (nI j)) (h2 : ¬ (2 ≤ n ∧ (nI j).toInt = a.toInt)) : f (26 * c + (j - 65)) = wv f n c (nI j) a := by
  have e : (nI j).toInt = (j : Int) := nI_toInt (by omega)
  rw [← wv_c hj h h2]
  congr 1
  omega
theorem wv_l2 {f : Nat → Int32} {n c j : Nat} {a : Int32} (hj : j < 123) (h0 : letr (nI j)) (h : ¬ cap (nI j)) (h2 : ¬ 1 ≤ n) : f (26 * c + (j - 97)) = wv f n c (nI j) a := by
  have e : (nI j).toInt = (j : Int) := nI_toInt (by omega)
  rw [← wv_l hj h0 h h2]
  congr 1
  omega
theorem ahd_p {t : Nat → Int32} {i : Nat} (h : ¬ i = 0) : t (i - 1) = ahd t 0 i := by
  obtain ⟨k, rfl⟩ : ∃ k, i = k + 1 := ⟨i - 1, by omega⟩
  show t (k + 1 - 1) = t (0 + k)
  rw [Nat.zero_add, Nat.add_sub_cancel]
theorem ahd_z {t : Nat → Int32} {i : Nat} (h : i = 0) : nI 32 = ahd t 0 i := by rw [h]; rfl
theorem or_0 (x : Int32) : x ||| nI 0 = x := by
  apply Int32.toBitVec_inj.mp
  rw [Int32.toBitVec_or]
  show x.toBitVec ||| 0#32 = x.toBitVec
  rw [BitVec.or_zero]
