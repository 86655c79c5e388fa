/-! ===== more of the small calls ===== -/
def vlt : Nat → Nat
  | 0 => 0
  | 1 => 1
  | 2 => 5
  | 3 => 10
  | 4 => 50
  | 5 => 100
  | 6 => 500
  | 7 => 1000
  | _ => 0
theorem vlt_b (k : Nat) : vlt k < 2 ^ 31 := by unfold vlt; split <;> decide
theorem tabV_eq : ∀ k, k < 8 → ([0, 1, 5, 10, 50, 100, 500, 1000] : List Nat).getD k 0 = vlt k := by decide
theorem tabV_e {k : Nat} (h : k < 8) : tabV k = .int (nI (vlt k)) := by unfold tabV; rw [tabV_eq k h]
theorem vlt_y {k : Nat} {v : Int32} (hk : k < 8) (h : ((vlt k : Nat) : Int) = v.toInt) : isVal v := by
  rcases (show k = 0 ∨ k = 1 ∨ k = 2 ∨ k = 3 ∨ k = 4 ∨ k = 5 ∨ k = 6 ∨ k = 7 by omega) with rfl | rfl | rfl | rfl | rfl | rfl | rfl | rfl <;> simp only [vlt] at h <;> omega
theorem vlt_n {v : Int32} (h : ∀ k, k < 8 → ¬ ((vlt k : Nat) : Int) = v.toInt) : ¬ isVal v := by
  have h0 := h 0 (by decide); have h1 := h 1 (by decide); have h2 := h 2 (by decide); have h3 := h 3 (by decide)
  have h4 := h 4 (by decide); have h5 := h 5 (by decide); have h6 := h 6 (by decide); have h7 := h 7 (by decide)
  simp only [vlt] at h0 h1 h2 h3 h4 h5 h6 h7
  omega
def alt : Nat → Nat
  | 0 => 1
  | 1 => 11
  | _ => 111
theorem alt_b (k : Nat) : alt k < 2 ^ 31 := by unfold alt; split <;> decide
theorem tabA_eq : ∀ k, k < 3 → ([1, 11, 111] : List Nat).getD k 0 = alt k := by decide
theorem tabA_e {k : Nat} (h : k < 3) : tabA k = .int (nI (alt k)) := by unfold tabA; rw [tabA_eq k h]
theorem bn1_y {va t : Nat → Int32} {L : Nat} {y : Int32} {c k : Nat} {b : Int32} (h : (smv va k c t 0 L).toInt = y.toInt) : bn1 va t L y c b k ||| (nI 1 <<< (nI (3 * c + k) &&& 31)) = bn1 va t L y c b (k + 1) := by
  show _ = (if (smv va k c t 0 L).toInt = y.toInt then _ else _)
  rw [if_pos h]
theorem bn1_n {va t : Nat → Int32} {L : Nat} {y : Int32} {c k : Nat} {b : Int32} (h : ¬ (smv va k c t 0 L).toInt = y.toInt) : bn1 va t L y c b k = bn1 va t L y c b (k + 1) := by
  show _ = (if (smv va k c t 0 L).toInt = y.toInt then _ else _)
  rw [if_neg h]
abbrev vok (c b v : Int32) : Prop := (0 ≤ c.toInt ∧ c.toInt < 4) ∧ (97 ≤ b.toInt ∧ b.toInt ≤ 122) ∧ isVal v
abbrev wok (n c b a : Int32) : Prop := way n c ∧ (0 ≤ b.toInt ∧ b.toInt < 256) ∧ (0 ≤ a.toInt ∧ a.toInt < 256)
abbrev vcok (f s : Int32) : Prop := (1 ≤ f.toInt ∧ f.toInt ≤ 3) ∧ (0 ≤ s.toInt ∧ s.toInt < 3)
abbrev ook (s t : Int32) : Prop := (0 ≤ s.toInt ∧ s.toInt < 4) ∧ (0 ≤ t.toInt ∧ t.toInt < 8)
