/-! ===== the line with a number ===== -/
/-- the vocable with which the line of this number goes on -/
def fvc (fe so nx : Nat → Int32) (ow : Nat → Nat) (w : Nat → Nat → Nat → Nat) (f s t q : Nat) : Nat → Nat
  | 0 => 0
  | v + 1 => fvc fe so nx ow w f s t q v + (if lsq fe so nx ow w f s t (v + 1) ≤ q then 1 else 0)
theorem lsq_mono (fe so nx : Nat → Int32) (ow : Nat → Nat) (w : Nat → Nat → Nat → Nat) (f s t a : Nat) : ∀ b, a ≤ b → lsq fe so nx ow w f s t a ≤ lsq fe so nx ow w f s t b
  | 0, h => by rw [show a = 0 by omega]; exact Nat.le_refl _
  | b + 1, h => by
    by_cases e : a = b + 1
    · rw [e]; exact Nat.le_refl _
    · have := lsq_mono fe so nx ow w f s t a b (by omega)
      show _ ≤ lsq fe so nx ow w f s t b + lst fe so nx ow w f s t b
      omega
theorem fvc_e {fe so nx : Nat → Int32} {ow : Nat → Nat} {w : Nat → Nat → Nat → Nat} {f s t q v : Nat} (h1 : lsq fe so nx ow w f s t v ≤ q) (h2 : q < lsq fe so nx ow w f s t (v + 1)) : ∀ n, fvc fe so nx ow w f s t q n = if n ≤ v then n else v
  | 0 => by rw [if_pos (Nat.zero_le _)]; rfl
  | n + 1 => by
    show fvc fe so nx ow w f s t q n + (if lsq fe so nx ow w f s t (n + 1) ≤ q then 1 else 0) = _
    rw [fvc_e h1 h2 n]
    by_cases c : n + 1 ≤ v
    · rw [if_pos (by omega), if_pos c, if_pos (Nat.le_trans (lsq_mono fe so nx ow w f s t (n + 1) v c) h1)]
    · have := lsq_mono fe so nx ow w f s t (v + 1) (n + 1) (by omega)
      rw [if_neg c, if_neg (show ¬ lsq fe so nx ow w f s t (n + 1) ≤ q by omega)]
      by_cases d : n ≤ v
      · rw [if_pos d]; omega
      · rw [if_neg d]; omega
/-- the vocable at place i of the line with number q: by fuel -/
def lnf (fe so nx : Nat → Int32) (ow : Nat → Nat) (nv : Nat) : Nat → Nat → Nat → Nat → Nat → Nat → Int32
  | 0, _, _, _, _, _ => (-9 : Int32)
  | k + 1, f, s, t, q, i => if f = 0 then (-9 : Int32) else if i = 0 then nI (fvc fe so nx ow (lwy fe so nx ow nv) f s t q nv) else lnf fe so nx ow nv k (f - tn (fe (fvc fe so nx ow (lwy fe so nx ow nv) f s t q nv))) (tn (so (fvc fe so nx ow (lwy fe so nx ow nv) f s t q nv))) (t - ow (fvc fe so nx ow (lwy fe so nx ow nv) f s t q nv)) (q - lsq fe so nx ow (lwy fe so nx ow nv) f s t (fvc fe so nx ow (lwy fe so nx ow nv) f s t q nv)) (i - 1)
theorem lnf_end {fe so nx : Nat → Int32} {ow : Nat → Nat} {nv k s t q i : Nat} : lnf fe so nx ow nv k 0 s t q i = (-9 : Int32) := by
  cases k with
  | zero => rfl
  | succ k => show (if _ then _ else _) = _; rw [if_pos rfl]
theorem lnf_here {fe so nx : Nat → Int32} {ow : Nat → Nat} {nv k f s t q v : Nat} (hf : 1 ≤ f) (hk : 1 ≤ k) (hv : v < nv) (h1 : lsq fe so nx ow (lwy fe so nx ow nv) f s t v ≤ q) (h2 : q < lsq fe so nx ow (lwy fe so nx ow nv) f s t (v + 1)) : lnf fe so nx ow nv k f s t q 0 = nI v := by
  obtain ⟨k, rfl⟩ : ∃ j, k = j + 1 := ⟨k - 1, by omega⟩
  show (if _ then _ else _) = _
  rw [if_neg (by omega), if_pos rfl, fvc_e h1 h2 nv, if_neg (by omega)]
theorem lnf_on {fe so nx : Nat → Int32} {ow : Nat → Nat} {nv k f s t q v i : Nat} (hf : 1 ≤ f) (hk : 1 ≤ k) (hv : v < nv) (hi : 1 ≤ i) (h1 : lsq fe so nx ow (lwy fe so nx ow nv) f s t v ≤ q) (h2 : q < lsq fe so nx ow (lwy fe so nx ow nv) f s t (v + 1)) : lnf fe so nx ow nv k f s t q i = lnf fe so nx ow nv (k - 1) (f - tn (fe v)) (tn (so v)) (t - ow v) (q - lsq fe so nx ow (lwy fe so nx ow nv) f s t v) (i - 1) := by
  obtain ⟨k, rfl⟩ : ∃ j, k = j + 1 := ⟨k - 1, by omega⟩
  show (if _ then _ else if _ then _ else _) = _
  rw [if_neg (by omega), if_neg (by omega), fvc_e h1 h2 nv, if_neg (by omega)]
  rfl
theorem lst_pos {fe so nx : Nat → Int32} {ow : Nat → Nat} {w : Nat → Nat → Nat → Nat} {f s t v : Nat} (h : 0 < lst fe so nx ow w f s t v) : tn (fe v) ≤ f ∧ ow v ≤ t ∧ lst fe so nx ow w f s t v = w (f - tn (fe v)) (tn (so v)) (t - ow v) := by
  by_cases c : tn (fe v) ≤ f ∧ ow v ≤ t ∧ mcy nx so s v
  · exact ⟨c.1, c.2.1, (lst_y c.1 c.2.1 c.2.2).symm⟩
  · rw [← lst_n c] at h; exact absurd h (Nat.lt_irrefl 0)
theorem lsq_1 {fe so nx : Nat → Int32} {ow : Nat → Nat} {w : Nat → Nat → Nat → Nat} {f s t v : Nat} : lsq fe so nx ow w f s t (v + 1) = lsq fe so nx ow w f s t v + lst fe so nx ow w f s t v := rfl
theorem lst_lt {fe so nx : Nat → Int32} {ow : Nat → Nat} {nv f s t v : Nat} (hn : nv ≤ 10) (hf : okV fe nv 1 3) (h8 : f ≤ 8) : lst fe so nx ow (lwy fe so nx ow nv) f s t v < 2 ^ 31 := by
  unfold lst
  by_cases c : tn (fe v) ≤ f ∧ ow v ≤ t ∧ mcy nx so s v
  · rw [if_pos c]
    exact Nat.lt_of_le_of_lt (Nat.le_trans (lwy_le hn hf) (Nat.pow_le_pow_right (by decide) (show f - tn (fe v) ≤ 8 by omega))) (by decide)
  · rw [if_neg c]; decide
theorem lwy_lt {fe so nx : Nat → Int32} {ow : Nat → Nat} {nv f s t : Nat} (hn : nv ≤ 10) (hf : okV fe nv 1 3) (h8 : f ≤ 8) : lwy fe so nx ow nv f s t < 2 ^ 31 := Nat.lt_of_le_of_lt (Nat.le_trans (lwy_le hn hf) (Nat.pow_le_pow_right (by decide) h8)) (by decide)
