/-! ===== lines by two customs at once ===== -/
def dst (fe so nx : Nat → Int32) (o1 o2 : Nat → Nat) (w : Nat → Nat → Nat → Nat → Nat) (f s y z v : Nat) : Nat := if mcy nx so s v then (if tn (fe v) ≤ f ∧ o1 v ≤ y ∧ o2 v ≤ z then w (f - tn (fe v)) (tn (so v)) (y - o1 v) (z - o2 v) else 0) else 0
def dsq (fe so nx : Nat → Int32) (o1 o2 : Nat → Nat) (w : Nat → Nat → Nat → Nat → Nat) (f s y z : Nat) : Nat → Nat
  | 0 => 0
  | v + 1 => dsq fe so nx o1 o2 w f s y z v + dst fe so nx o1 o2 w f s y z v
def dwf (fe so nx : Nat → Int32) (o1 o2 : Nat → Nat) (nv : Nat) : Nat → Nat → Nat → Nat → Nat → Nat
  | 0, _, _, y, z => if y = 0 ∧ z = 0 then 1 else 0
  | k + 1, f, s, y, z => if f = 0 then (if y = 0 ∧ z = 0 then 1 else 0) else dsq fe so nx o1 o2 (dwf fe so nx o1 o2 nv k) f s y z nv
def dwy (fe so nx : Nat → Int32) (o1 o2 : Nat → Nat) (nv f s y z : Nat) : Nat := dwf fe so nx o1 o2 nv f f s y z
theorem dsq_cong {fe so nx : Nat → Int32} {o1 o2 : Nat → Nat} {w w2 : Nat → Nat → Nat → Nat → Nat} {f s y z : Nat} : ∀ {n : Nat}, (∀ v, v < n → tn (fe v) ≤ f → ∀ a b c, w (f - tn (fe v)) a b c = w2 (f - tn (fe v)) a b c) → dsq fe so nx o1 o2 w f s y z n = dsq fe so nx o1 o2 w2 f s y z n
  | 0, _ => rfl
  | n + 1, h => by
    show dsq fe so nx o1 o2 w f s y z n + dst fe so nx o1 o2 w f s y z n = dsq fe so nx o1 o2 w2 f s y z n + dst fe so nx o1 o2 w2 f s y z n
    rw [dsq_cong (fun v hv => h v (by omega))]
    unfold dst
    by_cases c : tn (fe n) ≤ f ∧ o1 n ≤ y ∧ o2 n ≤ z
    · rw [if_pos c, if_pos c, h n (by omega) c.1]
    · rw [if_neg c, if_neg c]
theorem dwf_st {fe so nx : Nat → Int32} {o1 o2 : Nat → Nat} {nv : Nat} (hf : okV fe nv 1 3) : ∀ k k2 f s y z, f ≤ k → f ≤ k2 → dwf fe so nx o1 o2 nv k f s y z = dwf fe so nx o1 o2 nv k2 f s y z
  | 0, 0, _, _, _, _, _, _ => rfl
  | 0, k2 + 1, f, s, y, z, h, _ => by
    have : f = 0 := by omega
    subst this
    unfold dwf; rw [if_pos rfl]
  | k + 1, 0, f, s, y, z, _, h => by
    have : f = 0 := by omega
    subst this
    unfold dwf; rw [if_pos rfl]
  | k + 1, k2 + 1, f, s, y, z, h, h2 => by
    unfold dwf
    by_cases c : f = 0
    · rw [if_pos c, if_pos c]
    · rw [if_neg c, if_neg c]
      exact dsq_cong fun v hv hle a b c => dwf_st hf k k2 _ _ _ _ (by have := (hf v hv).2.1; omega) (by have := (hf v hv).2.1; omega)
theorem dwy_0 (fe so nx : Nat → Int32) (o1 o2 : Nat → Nat) (nv s y z : Nat) : dwy fe so nx o1 o2 nv 0 s y z = if y = 0 ∧ z = 0 then 1 else 0 := rfl
theorem dwy_s {fe so nx : Nat → Int32} {o1 o2 : Nat → Nat} {nv f s y z : Nat} (hf : okV fe nv 1 3) (h : 1 ≤ f) : dsq fe so nx o1 o2 (dwy fe so nx o1 o2 nv) f s y z nv = dwy fe so nx o1 o2 nv f s y z := by
  obtain ⟨k, rfl⟩ : ∃ k, f = k + 1 := ⟨f - 1, by omega⟩
  show _ = dwf fe so nx o1 o2 nv (k + 1) (k + 1) s y z
  unfold dwf
  rw [if_neg (by omega)]
  exact dsq_cong fun v hv hle a b c => dwf_st hf _ k _ _ _ _ (Nat.le_refl _) (by have := (hf v hv).2.1; omega)
/-- the same, of numbers that may have fallen below 0 -/
def dwz (w : Nat → Nat → Nat → Nat → Nat) (s : Nat) (f y z : Int32) : Nat := if 0 ≤ f.toInt ∧ 0 ≤ y.toInt ∧ 0 ≤ z.toInt then w (tn f) s (tn y) (tn z) else 0
theorem tn_sub {a b : Nat} (ha : a < 2 ^ 30) (hb : b < 2 ^ 30) (h : b ≤ a) : tn (nI a - nI b) = a - b := by rw [pk_sub h, tn_nI (by omega)]
theorem dwz_e {w : Nat → Nat → Nat → Nat → Nat} {s a b c d e f : Nat} (ha : a < 2 ^ 30) (hb : b < 2 ^ 30) (hc : c < 2 ^ 30) (hd : d < 2 ^ 30) (he : e < 2 ^ 30) (hf : f < 2 ^ 30) : dwz w s (nI a - nI b) (nI c - nI d) (nI e - nI f) = if b ≤ a ∧ d ≤ c ∧ f ≤ e then w (a - b) s (c - d) (e - f) else 0 := by
  unfold dwz
  rw [pk_sub_toInt ha hb, pk_sub_toInt hc hd, pk_sub_toInt he hf]
  by_cases q : b ≤ a ∧ d ≤ c ∧ f ≤ e
  · rw [if_pos (by omega), if_pos q, tn_sub ha hb q.1, tn_sub hc hd q.2.1, tn_sub he hf q.2.2]
  · rw [if_neg (by omega), if_neg q]
theorem dwz_n {w : Nat → Nat → Nat → Nat → Nat} {s a c e : Nat} (ha : a < 2 ^ 31) (hc : c < 2 ^ 31) (he : e < 2 ^ 31) : dwz w s (nI a) (nI c) (nI e) = w a s c e := by
  unfold dwz
  rw [nI_toInt ha, nI_toInt hc, nI_toInt he, if_pos (by omega), tn_nI ha, tn_nI hc, tn_nI he]
theorem dsq_n {fe so nx : Nat → Int32} {o1 o2 : Nat → Nat} {w : Nat → Nat → Nat → Nat → Nat} {f s y z v : Nat} (h : ¬ mcy nx so s v) : dsq fe so nx o1 o2 w f s y z v = dsq fe so nx o1 o2 w f s y z (v + 1) := by
  show _ = dsq fe so nx o1 o2 w f s y z v + dst fe so nx o1 o2 w f s y z v
  unfold dst; rw [if_neg h]; rfl
/-- the contract of doubleWaysOn with less than d feet left -/
def KD (l : Launch) (g : GW) (asked : Int64) (values : Nat → Int32) (bytes : Nat → Int32) (starts : Nat → Int32) (ends : Nat → Int32) (length : Int32) (parts : Int32) (texts : Nat → Int32) (lengths : Nat → Int32) (feet : Nat → Int32) (sorts : Nat → Int32) (nxt : Nat → Int32) (sums : Nat → Int32) (oneSums : Nat → Int32) (otherSums : Nat → Int32) (byFeet : Nat → Int64) (kept : Nat → Int64) (over : Int32) (rcount : Int32) (rcust : Int32) (ssums : Nat → Int32) (ways : Nat → Int64) (nextWays : Nat → Int64) (reached : Nat → Int64) (nextReached : Nat → Int64) (found : Int32) (least : Int32) (greatest : Int32) (nv : Nat) (o1 o2 : Nat → Nat) (d : Nat) : Prop := ∀ (behind : Nat) (ft y z : Int32), behind < 4 → ft.toInt < (d : Int) → ft.toInt ≤ 5 → y.toInt ≤ 3000 → z.toInt ≤ 3000 → Met l yX3_doubleWaysOn wsX3_doubleWaysOn ({ frames := d + 1, cells := 0, slots := 0, locals := 60 * d + 60 }) (va_Pc ([.ref (g.2.2 13), .int (nI (behind)), .int (ft), .int (y), .int (z)]) (pW g (wX g asked values bytes starts ends length parts texts lengths feet sorts nxt (nI (nv)) sums oneSums otherSums byFeet kept over rcount rcust ssums ways nextWays reached nextReached found least greatest))) (ro_Q (.long (lN (dwz (dwy feet sorts nxt o1 o2 nv) behind ft y z)))) 0 0 (fun _ => False)
