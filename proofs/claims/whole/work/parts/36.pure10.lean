/-! ===== a round of kept counts ===== -/
def rok (values texts lengths feet sorts nxt : Nat → Int32) (nv : Nat) (sums : Nat → Int32) (kept : Nat → Int64) (over rcount rcust : Int32) : Prop := over = nI 1 ∨ (over = nI 0 ∧ ∃ n c, n < 3 ∧ c < 4 ∧ rcount = nI n ∧ rcust = nI c ∧ (∀ v, v < nv → sums v = vsm values texts lengths n c v) ∧ keptOK kept (lwy feet sorts nxt (owf values texts lengths n c) nv))
theorem keptOK_0 {kp : Nat → Int64} {W : Nat → Nat → Nat → Nat} (h : ∀ k, k < 9003 → kp k = lN 0) : keptOK kp W := by
  intro b t f h1 h2 h3 h4
  rw [h _ (by omega)]
  unfold lane
  rw [show uN (lN 0) = 0 from rfl, Nat.zero_div]
  exact Or.inl rfl
theorem rok_old {values texts lengths feet sorts nxt : Nat → Int32} {nv : Nat} {sums : Nat → Int32} {kept : Nat → Int64} {over rcount rcust : Int32} {n c : Nat} (h : rok values texts lengths feet sorts nxt nv sums kept over rcount rcust) (h0 : over.toInt = 0) (h1 : ((n : Nat) : Int) = rcount.toInt) (h2 : ((c : Nat) : Int) = rcust.toInt) : (∀ v, v < nv → sums v = vsm values texts lengths n c v) ∧ keptOK kept (lwy feet sorts nxt (owf values texts lengths n c) nv) ∧ over = nI 0 ∧ rcount = nI n ∧ rcust = nI c := by
  rcases h with h | ⟨h, n1, c1, q1, q2, q3, q4, q5, q6⟩
  · rw [h] at h0; exact absurd h0 (by decide)
  · rw [q3, nI_toInt (by omega)] at h1
    rw [q4, nI_toInt (by omega)] at h2
    have e1 : n = n1 := by omega
    have e2 : c = c1 := by omega
    subst e1; subst e2
    exact ⟨q5, q6, h, q3, q4⟩
