/-! ===== the reference's parts, sums, copies ===== -/
abbrev prow2 (t : Nat → Int32) (k : Nat) (fr sz : Nat → Int32) : Prop := ∀ i, i < pn t k → fr i = nI (psx t k i) ∧ sz i = nI (pex t k i - psx t k i)
theorem psx_s (t : Nat → Int32) (k i : Nat) : psx t (k + 1) i = if ((t k).toInt ≠ 32 ∧ (ahd t 0 k).toInt = 32) ∧ i = pn t k then k else psx t k i := rfl
theorem pex_s (t : Nat → Int32) (k i : Nat) : pex t (k + 1) i = if (t k).toInt ≠ 32 ∧ i + 1 = pn t (k + 1) then k + 1 else pex t k i := rfl
theorem ahdS (t : Nat → Int32) (k : Nat) : ahd t 0 (k + 1) = t k := by show t (0 + k) = t k; rw [Nat.zero_add]
theorem pex_last {t : Nat → Int32} : ∀ {k : Nat}, ¬ (ahd t 0 k).toInt = ((32 : Nat) : Int) → pex t k (pn t k - 1) = k
  | 0, h => absurd (show (ahd t 0 0).toInt = ((32 : Nat) : Int) from nI32) h
  | k + 1, h => by
    have hp := (pn_room t (k + 1)).2.2 (by omega)
    rw [ahdS] at h
    show (if (t k).toInt ≠ 32 ∧ pn t (k + 1) - 1 + 1 = pn t (k + 1) then k + 1 else pex t k (pn t (k + 1) - 1)) = k + 1
    rw [if_pos ⟨by omega, by omega⟩]
theorem prow2_sp {t : Nat → Int32} {k : Nat} {fr sz : Nat → Int32} (h : prow2 t k fr sz) (c : (t k).toInt = ((32 : Nat) : Int)) : prow2 t (k + 1) fr sz := by
  intro i hi
  rw [pn_old (Or.inl c)] at hi
  obtain ⟨h1, h2⟩ := h i hi
  unfold psx pex
  rw [if_neg (by omega), if_neg (by omega)]
  exact ⟨h1, h2⟩
theorem prow2_in {t : Nat → Int32} {k : Nat} {fr sz : Nat → Int32} (h : prow2 t k fr sz) (c : ¬ (t k).toInt = ((32 : Nat) : Int)) (c2 : ¬ (ahd t 0 k).toInt = ((32 : Nat) : Int)) : prow2 t (k + 1) fr (upd sz (pn t k - 1) (nI (pex t k (pn t k - 1) - psx t k (pn t k - 1) + 1))) := by
  have hp := (pn_room t k).2.2 (by omega)
  have e := pn_old (t := t) (k := k) (Or.inr c2)
  have el := pex_last c2
  intro i hi
  rw [e] at hi
  obtain ⟨h1, h2⟩ := h i hi
  have hs := pse t k i hi
  rw [psx_s, pex_s]
  rw [if_neg (by omega), e]
  refine ⟨h1, ?_⟩
  unfold upd
  by_cases q : i = pn t k - 1
  · rw [if_pos q, if_pos (by omega)]
    subst q
    rw [el] at hs ⊢
    congr 1; omega
  · rw [if_neg q, if_neg (by omega)]; exact h2
theorem prow2_new {t : Nat → Int32} {k : Nat} {fr sz : Nat → Int32} (h : prow2 t k fr sz) (c : ¬ (t k).toInt = ((32 : Nat) : Int)) (c2 : (ahd t 0 k).toInt = ((32 : Nat) : Int)) : prow2 t (k + 1) (upd fr (pn t k) (nI k)) (upd (upd sz (pn t k) (nI 0)) (pn t k) (nI (0 + 1))) := by
  have e := pn_new c c2
  intro i hi
  rw [e] at hi
  unfold psx pex upd
  rw [e]
  by_cases q : i = pn t k
  · rw [if_pos q, if_pos q, if_pos ⟨⟨by omega, by omega⟩, q⟩, if_pos ⟨by omega, by omega⟩]
    exact ⟨rfl, by congr 1; omega⟩
  · obtain ⟨h1, h2⟩ := h i (by omega)
    rw [if_neg q, if_neg q, if_neg q, if_neg (by omega), if_neg (by omega)]
    exact ⟨h1, h2⟩
theorem ahd_p2 {t : Nat → Int32} {fr i : Nat} (h : ¬ i = 0) : t (fr + i - 1) = ahd t fr i := by
  obtain ⟨k, rfl⟩ : ∃ k, i = k + 1 := ⟨i - 1, by omega⟩
  rfl
theorem ahd_z2 {t : Nat → Int32} {fr i : Nat} (h : i = 0) : nI 32 = ahd t fr i := by rw [h]; rfl
theorem vsm_e {va tx le : Nat → Int32} {n c v k : Nat} (h : tn (le v) = k) : smv va n c tx (8 * v) k = vsm va tx le n c v := by
  unfold vsm; rw [h, Nat.mul_comm]
theorem stq_z {fe so nx : Nat → Int32} {w : Nat → Nat → Nat} {s nv : Nat} (hf : okV fe nv 1 3) : ∀ n, n ≤ nv → stq fe so nx w 0 s n = 0
  | 0, _ => rfl
  | n + 1, h => by
    show stq fe so nx w 0 s n + (if _ then _ else 0) = 0
    have := (hf n (by omega)).2.1
    rw [stq_z hf n (by omega), if_neg (by omega)]
theorem mwy_t {fe so nx : Nat → Int32} {nv f s : Nat} (hf : okV fe nv 1 3) : (if f = 0 then 1 else 0) + stq fe so nx (mwy fe so nx nv) f s nv = mwy fe so nx nv f s := by
  by_cases c : f = 0
  · subst c; rw [if_pos rfl, stq_z hf nv (Nat.le_refl _)]; rfl
  · rw [if_neg c, Nat.zero_add, mwy_s hf (by omega)]
theorem cpy_s {f g : Nat → Int32} {b i : Nat} : upd (va_cpy f g 0 b i) (b + i) (f i) = va_cpy f g 0 b (i + 1) := by
  funext j
  unfold upd va_cpy
  by_cases h : j = b + i
  · rw [if_pos h, if_pos (by omega)]; congr 1; omega
  · rw [if_neg h]
    by_cases h2 : b ≤ j ∧ j < b + i
    · rw [if_pos h2, if_pos (by omega)]
    · rw [if_neg h2, if_neg (by omega)]
theorem cpy_0 {f g : Nat → Int32} {b : Nat} : va_cpy f g 0 b 0 = g := by
  funext j
  unfold va_cpy
  rw [if_neg (by omega)]
abbrev wordi (t : Nat → Int32) (L i : Nat) : Prop := (1 ≤ L ∧ L ≤ 8) ∧ ∀ k, k < i → letr (t k)
theorem and_if {A B C : Prop} [Decidable A] [Decidable B] [Decidable C] (h : (A ∧ B) ↔ C) : (if A then (1 : Int32) else 0) &&& (if B then 1 else 0) = if C then 1 else 0 := by
  by_cases a : A <;> by_cases b : B
  · rw [if_pos a, if_pos b, if_pos (h.mp ⟨a, b⟩)]; rfl
  · rw [if_pos a, if_neg b, if_neg (fun q => b (h.mpr q).2)]; rfl
  · rw [if_neg a, if_pos b, if_neg (fun q => a (h.mpr q).1)]; rfl
  · rw [if_neg a, if_neg b, if_neg (fun q => a (h.mpr q).1)]; rfl
theorem wordi_s {t : Nat → Int32} {L i : Nat} : (wordi t L i ∧ letr (t i)) ↔ wordi t L (i + 1) := ⟨fun h => ⟨h.1.1, lt_s h.1.2 h.2⟩, fun h => ⟨⟨h.1, fun k hk => h.2 k (by omega)⟩, h.2 i (by omega)⟩⟩
