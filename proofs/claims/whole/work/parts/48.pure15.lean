/-! ===== readings, the reference's way ===== -/
theorem rsq_3 {t tx le so nx : Nat → Int32} {L i nv : Nat} {w : Nat → Nat} (hs : okV so nv 0 2) : ∀ v, v ≤ nv → rsq t tx le so nx L i w 3 v = 0
  | 0, _ => rfl
  | v + 1, h => by
    have := (hs v (by omega)).2.2
    rw [← rsq_n (fun q => absurd q.2 (by omega)), rsq_3 hs v (by omega)]
theorem rdw_3 {t tx le so nx : Nat → Int32} {L nv i : Nat} (hs : okV so nv 0 2) (h : 1 ≤ i) : rdw t tx le so nx L nv i 3 = 0 := by
  obtain ⟨k, rfl⟩ : ∃ k, i = k + 1 := ⟨i - 1, by omega⟩
  show min (rsq t tx le so nx L k (rdw t tx le so nx L nv k) 3 nv) 2000000000 = 0
  rw [rsq_3 hs nv (Nat.le_refl _)]; rfl
theorem rsq_at {t tx le so nx : Nat → Int32} {L i v s : Nat} {w : Nat → Nat} (h : fitP t tx le L i v) (e : s = tn (so v)) : rsq t tx le so nx L i w s v + wto nx so w v 4 = rsq t tx le so nx L i w s (v + 1) := by subst e; exact rsq_y h
