/-! ===== facts of the machine's numbers as facts of naturals and integers ===== -/
theorem cv_le_nn {a b : Nat} (ha : a < 2 ^ 31) (hb : b < 2 ^ 31) : nI a ≤ nI b ↔ a ≤ b := nI_leI ha hb
theorem cv_lt_nn {a b : Nat} (ha : a < 2 ^ 31) (hb : b < 2 ^ 31) : nI a < nI b ↔ a < b := nI_ltI ha hb
theorem cv_eq_nn {a b : Nat} (ha : a < 2 ^ 31) (hb : b < 2 ^ 31) : nI a = nI b ↔ a = b := nI_eq ha hb
theorem cv_le_ii {x y : Int32} : x ≤ y ↔ x.toInt ≤ y.toInt := Int32.le_iff_toInt_le
theorem cv_lt_ii {x y : Int32} : x < y ↔ x.toInt < y.toInt := Int32.lt_iff_toInt_lt
theorem cv_eq_ii {x y : Int32} : x = y ↔ x.toInt = y.toInt := Int32.toInt_inj.symm
theorem cv_le_in {x : Int32} {b : Nat} (hb : b < 2 ^ 31) : x ≤ nI b ↔ x.toInt ≤ (b : Int) := by rw [cv_le_ii, nI_toInt hb]
theorem cv_lt_in {x : Int32} {b : Nat} (hb : b < 2 ^ 31) : x < nI b ↔ x.toInt < (b : Int) := by rw [cv_lt_ii, nI_toInt hb]
theorem cv_eq_in {x : Int32} {b : Nat} (hb : b < 2 ^ 31) : x = nI b ↔ x.toInt = (b : Int) := by rw [cv_eq_ii, nI_toInt hb]
theorem cv_le_ni {x : Int32} {b : Nat} (hb : b < 2 ^ 31) : nI b ≤ x ↔ (b : Int) ≤ x.toInt := by rw [cv_le_ii, nI_toInt hb]
theorem cv_lt_ni {x : Int32} {b : Nat} (hb : b < 2 ^ 31) : nI b < x ↔ (b : Int) < x.toInt := by rw [cv_lt_ii, nI_toInt hb]
theorem cv_eq_ni {x : Int32} {b : Nat} (hb : b < 2 ^ 31) : nI b = x ↔ (b : Int) = x.toInt := by rw [cv_eq_ii, nI_toInt hb]
theorem cw_3 (x y : Int64) : (lg_cmp x y = 1 ∧ y.toInt < x.toInt) ∨ (lg_cmp x y = 0 ∧ x.toInt = y.toInt) ∨ (lg_cmp x y = -1 ∧ x.toInt < y.toInt) := by
  unfold lg_cmp
  simp only [gt_iff_lt, Int64.lt_iff_toInt_lt, ← Int64.toInt_inj]
  by_cases h1 : y.toInt < x.toInt
  · left; simp [h1]
  · by_cases h2 : x.toInt = y.toInt
    · right; left; simp [h2]
    · right; right
      refine ⟨by simp [h1, h2], by omega⟩
theorem cw_lt (x y : Int64) : (lg_cmp x y < 0 → x.toInt < y.toInt) ∧ (¬ lg_cmp x y < 0 → y.toInt ≤ x.toInt) := by
  rcases cw_3 x y with ⟨h, k⟩ | ⟨h, k⟩ | ⟨h, k⟩ <;> rw [h] <;> refine ⟨fun q => ?_, fun q => ?_⟩ <;> first | omega | exact absurd q (by decide)
theorem cw_ge (x y : Int64) : (0 ≤ lg_cmp x y → y.toInt ≤ x.toInt) ∧ (¬ 0 ≤ lg_cmp x y → x.toInt < y.toInt) := by
  rcases cw_3 x y with ⟨h, k⟩ | ⟨h, k⟩ | ⟨h, k⟩ <;> rw [h] <;> refine ⟨fun q => ?_, fun q => ?_⟩ <;> first | omega | exact absurd q (by decide)
theorem cw_gt (x y : Int64) : (0 < lg_cmp x y → y.toInt < x.toInt) ∧ (¬ 0 < lg_cmp x y → x.toInt ≤ y.toInt) := by
  rcases cw_3 x y with ⟨h, k⟩ | ⟨h, k⟩ | ⟨h, k⟩ <;> rw [h] <;> refine ⟨fun q => ?_, fun q => ?_⟩ <;> first | omega | exact absurd q (by decide)
theorem cw_le (x y : Int64) : (lg_cmp x y ≤ 0 → x.toInt ≤ y.toInt) ∧ (¬ lg_cmp x y ≤ 0 → y.toInt < x.toInt) := by
  rcases cw_3 x y with ⟨h, k⟩ | ⟨h, k⟩ | ⟨h, k⟩ <;> rw [h] <;> refine ⟨fun q => ?_, fun q => ?_⟩ <;> first | omega | exact absurd q (by decide)
theorem cw_eq (x y : Int64) : (lg_cmp x y = 0 → x.toInt = y.toInt) ∧ (¬ lg_cmp x y = 0 → x.toInt ≠ y.toInt) := by
  rcases cw_3 x y with ⟨h, k⟩ | ⟨h, k⟩ | ⟨h, k⟩ <;> rw [h] <;> refine ⟨fun q => ?_, fun q => ?_⟩ <;> first | omega | exact absurd q (by decide)
theorem cw_ne (x y : Int64) : (¬ lg_cmp x y = 0 → x.toInt ≠ y.toInt) ∧ (lg_cmp x y = 0 → x.toInt = y.toInt) := ⟨(cw_eq x y).2, (cw_eq x y).1⟩
theorem cx_T {a : Nat} (h : a < 2 ^ 63) : (lN a).toInt = (a : Int) := pk_lT h
theorem cx_lt {a b : Nat} (ha : a < 2 ^ 63) (hb : b < 2 ^ 63) : (lg_cmp (lN a) (lN b) < 0 → a < b) ∧ (¬ lg_cmp (lN a) (lN b) < 0 → b ≤ a) := by
  have h := cw_lt (lN a) (lN b)
  rw [cx_T ha, cx_T hb] at h
  exact ⟨fun q => by have := h.1 q; omega, fun q => by have := h.2 q; omega⟩
theorem cx_ge {a b : Nat} (ha : a < 2 ^ 63) (hb : b < 2 ^ 63) : (0 ≤ lg_cmp (lN a) (lN b) → b ≤ a) ∧ (¬ 0 ≤ lg_cmp (lN a) (lN b) → a < b) := by
  have h := cw_ge (lN a) (lN b)
  rw [cx_T ha, cx_T hb] at h
  exact ⟨fun q => by have := h.1 q; omega, fun q => by have := h.2 q; omega⟩
theorem cx_gt {a b : Nat} (ha : a < 2 ^ 63) (hb : b < 2 ^ 63) : (0 < lg_cmp (lN a) (lN b) → b < a) ∧ (¬ 0 < lg_cmp (lN a) (lN b) → a ≤ b) := by
  have h := cw_gt (lN a) (lN b)
  rw [cx_T ha, cx_T hb] at h
  exact ⟨fun q => by have := h.1 q; omega, fun q => by have := h.2 q; omega⟩
theorem cx_le {a b : Nat} (ha : a < 2 ^ 63) (hb : b < 2 ^ 63) : (lg_cmp (lN a) (lN b) ≤ 0 → a ≤ b) ∧ (¬ lg_cmp (lN a) (lN b) ≤ 0 → b < a) := by
  have h := cw_le (lN a) (lN b)
  rw [cx_T ha, cx_T hb] at h
  exact ⟨fun q => by have := h.1 q; omega, fun q => by have := h.2 q; omega⟩
theorem cx_eq {a b : Nat} (ha : a < 2 ^ 63) (hb : b < 2 ^ 63) : (lg_cmp (lN a) (lN b) = 0 → a = b) ∧ (¬ lg_cmp (lN a) (lN b) = 0 → a ≠ b) := by
  have h := cw_eq (lN a) (lN b)
  rw [cx_T ha, cx_T hb] at h
  exact ⟨fun q => by have := h.1 q; omega, fun q => by have := h.2 q; omega⟩
theorem cx_ne {a b : Nat} (ha : a < 2 ^ 63) (hb : b < 2 ^ 63) : (¬ lg_cmp (lN a) (lN b) = 0 → a ≠ b) ∧ (lg_cmp (lN a) (lN b) = 0 → a = b) := ⟨(cx_eq ha hb).2, (cx_eq ha hb).1⟩
theorem if_n {P : Prop} [Decidable P] (h : (if P then (1 : Int32) else 0) = 0) : ¬ P := fun q => by rw [if_pos q] at h; exact absurd h (by decide)
theorem if_p {P : Prop} [Decidable P] (h : ¬ (if P then (1 : Int32) else 0) = 0) : P := Decidable.byContradiction fun q => h (by rw [if_neg q])
theorem one_if {P : Prop} [Decidable P] (h : P) : nI 1 = if P then 1 else 0 := by rw [if_pos h]; rfl
theorem zero_if {P : Prop} [Decidable P] (h : ¬ P) : nI 0 = if P then 1 else 0 := by rw [if_neg h]; rfl
theorem if_cg {P P' : Prop} [Decidable P] [Decidable P'] (h : P ↔ P') : (if P then (1 : Int32) else 0) = if P' then 1 else 0 := by by_cases q : P <;> simp [q, h.mp, h, ← h]
theorem fb_rng0 (x : Int32) : -2147483648 ≤ x.toInt ∧ x.toInt < 2147483648 := ⟨Int32.le_toInt x, Int32.toInt_lt x⟩
theorem iN_of {x : Int32} {b : Nat} (h0 : 0 ≤ x.toInt) (h1 : x.toInt < (b : Int)) : ∃ j : Nat, j < b ∧ x = nI j := by
  refine ⟨x.toInt.toNat, by omega, ?_⟩
  have hb := fb_rng0 x
  rw [cv_eq_ii, nI_toInt (by omega)]
  omega
theorem z_toInt : (0 : Int32).toInt = 0 := by decide
theorem cz_eq_i {x : Int32} : x = 0 ↔ x.toInt = 0 := by rw [cv_eq_ii, z_toInt]
theorem cz_lt_i {x : Int32} : x < 0 ↔ x.toInt < 0 := by rw [cv_lt_ii, z_toInt]
theorem cz_le_i {x : Int32} : x ≤ 0 ↔ x.toInt ≤ 0 := by rw [cv_le_ii, z_toInt]
theorem cz_ge_i {x : Int32} : 0 ≤ x ↔ 0 ≤ x.toInt := by rw [cv_le_ii, z_toInt]
theorem cz_gt_i {x : Int32} : 0 < x ↔ 0 < x.toInt := by rw [cv_lt_ii, z_toInt]
theorem cz_eq_n {a : Nat} (h : a < 2 ^ 31) : nI a = 0 ↔ a = 0 := by rw [cz_eq_i, nI_toInt h]; omega
theorem cz_lt_n {a : Nat} (h : a < 2 ^ 31) : nI a < 0 ↔ (a : Int) < 0 := by rw [cz_lt_i, nI_toInt h]
theorem cz_le_n {a : Nat} (h : a < 2 ^ 31) : nI a ≤ 0 ↔ a ≤ 0 := by rw [cz_le_i, nI_toInt h]; omega
theorem cz_ge_n {a : Nat} (h : a < 2 ^ 31) : 0 ≤ nI a ↔ 0 ≤ a := by rw [cz_ge_i, nI_toInt h]; omega
theorem cz_gt_n {a : Nat} (h : a < 2 ^ 31) : 0 < nI a ↔ 0 < a := by rw [cz_gt_i, nI_toInt h]; omega
theorem w_toInt (x : Int32) : x.toInt64.toInt = x.toInt := Int32.toInt_toInt64 x
