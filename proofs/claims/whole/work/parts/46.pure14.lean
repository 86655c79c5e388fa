/-! ===== readings of a stone ===== -/
def rsq (t tx le so nx : Nat → Int32) (L i : Nat) (w : Nat → Nat) (s : Nat) : Nat → Nat
  | 0 => 0
  | v + 1 => rsq t tx le so nx L i w s v + (if fitP t tx le L i v ∧ tn (so v) = s then wto nx so w v 4 else 0)
theorem rsq_y {t tx le so nx : Nat → Int32} {L i v : Nat} {w : Nat → Nat} (h : fitP t tx le L i v) : rsq t tx le so nx L i w (tn (so v)) v + wto nx so w v 4 = rsq t tx le so nx L i w (tn (so v)) (v + 1) := by
  show _ = rsq t tx le so nx L i w (tn (so v)) v + (if _ then _ else 0)
  rw [if_pos ⟨h, rfl⟩]
theorem rsq_n {t tx le so nx : Nat → Int32} {L i v s : Nat} {w : Nat → Nat} (h : ¬ (fitP t tx le L i v ∧ tn (so v) = s)) : rsq t tx le so nx L i w s v = rsq t tx le so nx L i w s (v + 1) := by
  show _ = rsq t tx le so nx L i w s v + (if _ then _ else 0)
  rw [if_neg h]; rfl
def rdw (t tx le so nx : Nat → Int32) (L nv : Nat) : Nat → Nat → Nat
  | 0, s => if s = 3 then 1 else 0
  | i + 1, s => min (rsq t tx le so nx L i (rdw t tx le so nx L nv i) s nv) 2000000000
theorem rdw_le (t tx le so nx : Nat → Int32) (L nv : Nat) : ∀ i s, rdw t tx le so nx L nv i s ≤ 2000000000
  | 0, s => by unfold rdw; split <;> decide
  | i + 1, s => Nat.min_le_right _ _
theorem wto_le {nx so : Nat → Int32} {w : Nat → Nat} {v B : Nat} (h : ∀ k, w k ≤ B) : ∀ k, wto nx so w v k ≤ k * B
  | 0 => Nat.zero_le _
  | k + 1 => by
    have h1 := wto_le (nx := nx) (so := so) (v := v) h k
    have h2 := h k
    show wto nx so w v k + (if mcy nx so k v then w k else 0) ≤ _
    rw [Nat.succ_mul]
    split <;> omega
theorem rsq_le {t tx le so nx : Nat → Int32} {L i s : Nat} {w : Nat → Nat} (h : ∀ k, w k ≤ 2000000000) : ∀ v, rsq t tx le so nx L i w s v ≤ v * 8000000000
  | 0 => Nat.zero_le _
  | v + 1 => by
    have h1 := rsq_le (t := t) (tx := tx) (le := le) (so := so) (nx := nx) (L := L) (i := i) (s := s) h v
    have h2 : wto nx so w v 4 ≤ 8000000000 := Nat.le_trans (wto_le (nx := nx) (so := so) (v := v) h 4) (by decide)
    show rsq t tx le so nx L i w s v + (if _ then _ else 0) ≤ _
    rw [Nat.succ_mul]
    by_cases c : fitP t tx le L i v ∧ tn (so v) = s
    · rw [if_pos c]; exact Nat.add_le_add h1 h2
    · rw [if_neg c]; exact Nat.add_le_add h1 (Nat.zero_le _)
theorem mn_l {a b : Nat} (ha : a < 2 ^ 63) (hb : b < 2 ^ 63) : (if lN b < lN a then lN b else lN a) = lN (min a b) := by
  by_cases h : b < a
  · rw [if_pos ((pk_lLT hb ha).mpr h), Nat.min_eq_right (by omega)]
  · rw [if_neg (fun q => h ((pk_lLT hb ha).mp q)), Nat.min_eq_left (by omega)]
/-- the sum over the first places of the order -/
def sm4 (w : Nat → Nat) : Nat → Nat
  | 0 => 0
  | k + 1 => sm4 w k + w k
theorem sm4_le {w : Nat → Nat} {B : Nat} (h : ∀ k, w k ≤ B) : ∀ k, sm4 w k ≤ k * B
  | 0 => Nat.zero_le _
  | k + 1 => by have h1 := sm4_le h k; have h2 := h k; show sm4 w k + w k ≤ _; rw [Nat.succ_mul]; omega
def aRead (t tx le so nx : Nat → Int32) (L nv : Nat) : Int32 := if pn t L = 0 then (-2 : Int32) else nI (min (sm4 (rdw t tx le so nx L nv (pn t L)) 4) 2000000000)
