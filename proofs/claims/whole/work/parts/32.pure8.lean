/-! ===== lines by feet, an order and a sum ===== -/
def lst (fe so nx : Nat → Int32) (ow : Nat → Nat) (w : Nat → Nat → Nat → Nat) (f s t v : Nat) : Nat := if tn (fe v) ≤ f ∧ ow v ≤ t ∧ mcy nx so s v then w (f - tn (fe v)) (tn (so v)) (t - ow v) else 0
def lsq (fe so nx : Nat → Int32) (ow : Nat → Nat) (w : Nat → Nat → Nat → Nat) (f s t : Nat) : Nat → Nat
  | 0 => 0
  | v + 1 => lsq fe so nx ow w f s t v + lst fe so nx ow w f s t v
theorem lst_y {fe so nx : Nat → Int32} {ow : Nat → Nat} {w : Nat → Nat → Nat → Nat} {f s t v : Nat} (h1 : tn (fe v) ≤ f) (h2 : ow v ≤ t) (h3 : mcy nx so s v) : w (f - tn (fe v)) (tn (so v)) (t - ow v) = lst fe so nx ow w f s t v := by unfold lst; rw [if_pos ⟨h1, h2, h3⟩]
theorem lst_n {fe so nx : Nat → Int32} {ow : Nat → Nat} {w : Nat → Nat → Nat → Nat} {f s t v : Nat} (h : ¬ (tn (fe v) ≤ f ∧ ow v ≤ t ∧ mcy nx so s v)) : 0 = lst fe so nx ow w f s t v := by unfold lst; rw [if_neg h]
theorem lsq_nn {fe so nx : Nat → Int32} {ow : Nat → Nat} {w : Nat → Nat → Nat → Nat} {f s t v a : Nat} (h : ¬ (tn (fe v) ≤ f ∧ ow v ≤ t ∧ mcy nx so s v)) : a + lsq fe so nx ow w f s t v + 0 = a + lsq fe so nx ow w f s t (v + 1) := by
  show _ = a + (lsq fe so nx ow w f s t v + lst fe so nx ow w f s t v)
  rw [← lst_n h, Nat.add_assoc]
theorem lsq_yy {fe so nx : Nat → Int32} {ow : Nat → Nat} {w : Nat → Nat → Nat → Nat} {f s t v a : Nat} (h1 : tn (fe v) ≤ f) (h2 : ow v ≤ t) (h3 : mcy nx so s v) : a + lsq fe so nx ow w f s t v + w (f - tn (fe v)) (tn (so v)) (t - ow v) = a + lsq fe so nx ow w f s t (v + 1) := by
  show _ = a + (lsq fe so nx ow w f s t v + lst fe so nx ow w f s t v)
  rw [← lst_y h1 h2 h3, Nat.add_assoc]
theorem lsq_cong {fe so nx : Nat → Int32} {ow : Nat → Nat} {w w2 : Nat → Nat → Nat → Nat} {f s t : Nat} : ∀ {n : Nat}, (∀ v, v < n → tn (fe v) ≤ f → w (f - tn (fe v)) (tn (so v)) (t - ow v) = w2 (f - tn (fe v)) (tn (so v)) (t - ow v)) → lsq fe so nx ow w f s t n = lsq fe so nx ow w2 f s t n
  | 0, _ => rfl
  | n + 1, h => by
    show lsq fe so nx ow w f s t n + lst fe so nx ow w f s t n = lsq fe so nx ow w2 f s t n + lst fe so nx ow w2 f s t n
    rw [lsq_cong (fun v hv => h v (by omega))]
    unfold lst
    by_cases c : tn (fe n) ≤ f ∧ ow n ≤ t ∧ mcy nx so s n
    · rw [if_pos c, if_pos c, h n (by omega) c.1]
    · rw [if_neg c, if_neg c]
def lwf (fe so nx : Nat → Int32) (ow : Nat → Nat) (nv : Nat) : Nat → Nat → Nat → Nat → Nat
  | 0, _, _, t => if t = 0 then 1 else 0
  | k + 1, f, s, t => if f = 0 then (if t = 0 then 1 else 0) else lsq fe so nx ow (lwf fe so nx ow nv k) f s t nv
/-- how many ways there are to go on behind s with f feet and the sum t left -/
def lwy (fe so nx : Nat → Int32) (ow : Nat → Nat) (nv f s t : Nat) : Nat := lwf fe so nx ow nv f f s t
theorem lwf_st {fe so nx : Nat → Int32} {ow : Nat → Nat} {nv : Nat} (hf : okV fe nv 1 3) : ∀ k k2 f s t, f ≤ k → f ≤ k2 → lwf fe so nx ow nv k f s t = lwf fe so nx ow nv k2 f s t
  | 0, 0, _, _, _, _, _ => rfl
  | 0, k2 + 1, f, s, t, h, _ => by
    have : f = 0 := by omega
    subst this
    unfold lwf; rw [if_pos rfl]
  | k + 1, 0, f, s, t, _, h => by
    have : f = 0 := by omega
    subst this
    unfold lwf; rw [if_pos rfl]
  | k + 1, k2 + 1, f, s, t, h, h2 => by
    unfold lwf
    by_cases c : f = 0
    · rw [if_pos c, if_pos c]
    · rw [if_neg c, if_neg c]
      exact lsq_cong fun v hv hle => lwf_st hf k k2 _ _ _ (by have := (hf v hv).2.1; omega) (by have := (hf v hv).2.1; omega)
theorem lwy_0 (fe so nx : Nat → Int32) (ow : Nat → Nat) (nv s t : Nat) : lwy fe so nx ow nv 0 s t = if t = 0 then 1 else 0 := rfl
theorem lwy_s {fe so nx : Nat → Int32} {ow : Nat → Nat} {nv f s t : Nat} (hf : okV fe nv 1 3) (h : 1 ≤ f) : lsq fe so nx ow (lwy fe so nx ow nv) f s t nv = lwy fe so nx ow nv f s t := by
  obtain ⟨k, rfl⟩ : ∃ k, f = k + 1 := ⟨f - 1, by omega⟩
  show _ = lwf fe so nx ow nv (k + 1) (k + 1) s t
  unfold lwf
  rw [if_neg (by omega)]
  exact lsq_cong fun v hv hle => lwf_st hf _ k _ _ _ (Nat.le_refl _) (by have := (hf v hv).2.1; omega)
theorem lsq_z {fe so nx : Nat → Int32} {ow : Nat → Nat} {w : Nat → Nat → Nat → Nat} {s t nv : Nat} (hf : okV fe nv 1 3) : ∀ n, n ≤ nv → lsq fe so nx ow w 0 s t n = 0
  | 0, _ => rfl
  | n + 1, h => by
    show lsq fe so nx ow w 0 s t n + lst fe so nx ow w 0 s t n = 0
    have := (hf n (by omega)).2.1
    rw [lsq_z hf n (by omega), ← lst_n (by omega)]
theorem lwy_t {fe so nx : Nat → Int32} {ow : Nat → Nat} {nv f s t : Nat} (hf : okV fe nv 1 3) : (if f = 0 ∧ t = 0 then 1 else 0) + lsq fe so nx ow (lwy fe so nx ow nv) f s t nv = lwy fe so nx ow nv f s t := by
  by_cases c : f = 0
  · subst c
    rw [lsq_z hf nv (Nat.le_refl _), lwy_0]
    by_cases d : t = 0
    · rw [if_pos ⟨rfl, d⟩, if_pos d]
    · rw [if_neg (by omega), if_neg d]
  · rw [if_neg (by omega), Nat.zero_add, lwy_s hf (by omega)]
/-! sums of letters are small naturals -/
theorem wv_ok {f : Nat → Int32} {n c : Nat} {b a : Int32} (hf : okV f 104 0 1000) (hc : c < 4) : wv f n c b a = nI (tn (wv f n c b a)) ∧ tn (wv f n c b a) ≤ 1000 := by
  unfold wv
  by_cases q : ¬ letr b ∨ (1 ≤ n ∧ ¬ cap b) ∨ (2 ≤ n ∧ b.toInt = a.toInt)
  · rw [if_pos q, tn_nI (by decide)]; exact ⟨rfl, by decide⟩
  · rw [if_neg q]
    have hl : letr b := Decidable.byContradiction fun z => q (Or.inl z)
    have h := hf (26 * c + (b.toInt - (if cap b then 65 else 97)).toNat) (by by_cases z : cap b; (rw [if_pos z]; omega); (rw [if_neg z]; omega))
    exact ⟨h.1, h.2.2⟩
theorem smv_ok {f : Nat → Int32} {n c : Nat} {t : Nat → Int32} {fr : Nat} (hf : okV f 104 0 1000) (hc : c < 4) : ∀ k, k ≤ 40 → smv f n c t fr k = nI (tn (smv f n c t fr k)) ∧ tn (smv f n c t fr k) ≤ 1000 * k
  | 0, _ => by show nI 0 = nI (tn (nI 0)) ∧ tn (nI 0) ≤ _; rw [tn_nI (by decide)]; exact ⟨rfl, by omega⟩
  | k + 1, h => by
    obtain ⟨h1, h2⟩ := smv_ok (t := t) (fr := fr) (n := n) hf hc k (by omega)
    obtain ⟨h3, h4⟩ := wv_ok (n := n) (b := t (fr + k)) (a := ahd t fr k) hf hc
    show smv f n c t fr k + wv f n c (t (fr + k)) (ahd t fr k) = nI (tn (smv f n c t fr k + wv f n c (t (fr + k)) (ahd t fr k))) ∧ tn (smv f n c t fr k + wv f n c (t (fr + k)) (ahd t fr k)) ≤ _
    rw [h1, h3, nI_add, tn_nI (by omega)]
    exact ⟨rfl, by omega⟩
theorem vsm_ok {va tx le : Nat → Int32} {n c v nv : Nat} (hf : okV va 104 0 1000) (hc : c < 4) (hl : okV le nv 1 8) (hv : v < nv) : vsm va tx le n c v = nI (tn (vsm va tx le n c v)) ∧ tn (vsm va tx le n c v) ≤ 8000 := by
  unfold vsm
  have h := hl v hv
  obtain ⟨h1, h2⟩ := smv_ok (t := tx) (fr := v * 8) (n := n) hf hc (tn (le v)) (by omega)
  exact ⟨h1, by omega⟩
/-- the sums that vocables add to a line -/
abbrev owf (va tx le : Nat → Int32) (n c : Nat) : Nat → Nat := fun v => tn (vsm va tx le n c v)
