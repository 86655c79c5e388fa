/-! ===== numbers of arrays as naturals; parts of the draft; sums of vocables ===== -/
def tn (x : Int32) : Nat := x.toInt.toNat
theorem tn_nI {j : Nat} (h : j < 2 ^ 31) : tn (nI j) = j := by unfold tn; rw [nI_toInt h]; omega
abbrev okV (f : Nat → Int32) (n lo hi : Nat) : Prop := ∀ k, k < n → f k = nI (tn (f k)) ∧ lo ≤ tn (f k) ∧ tn (f k) ≤ hi
theorem okV_1 {x : Int32} {lo hi : Nat} (h : ∃ j : Nat, x = nI j ∧ lo ≤ j ∧ j ≤ hi) (hh : hi < 2 ^ 31) : x = nI (tn x) ∧ lo ≤ tn x ∧ tn x ≤ hi := by
  obtain ⟨j, rfl, h1, h2⟩ := h
  rw [tn_nI (by omega)]
  exact ⟨rfl, h1, h2⟩
theorem okV_upd {f : Nat → Int32} {n lo hi k : Nat} {x : Int32} (h : okV f n lo hi) (hx : x = nI (tn x) ∧ lo ≤ tn x ∧ tn x ≤ hi) : okV (upd f k x) n lo hi := by
  intro j hj
  by_cases e : j = k
  · subst e; simp only [upd, if_true]; exact hx
  · simp only [upd, if_neg e]; exact h j hj
theorem okV_push {f : Nat → Int32} {n lo hi : Nat} {x : Int32} (h : okV f n lo hi) (hx : x = nI (tn x) ∧ lo ≤ tn x ∧ tn x ≤ hi) : okV (upd f n x) (n + 1) lo hi := by
  intro j hj
  by_cases e : j = n
  · subst e; simp only [upd, if_true]; exact hx
  · simp only [upd, if_neg e]; exact h j (by omega)
theorem fillL_s {u : Nat → Int64} {i : Nat} {v : Int64} (h : ∀ k, k < i → u k = v) : ∀ k, k < i + 1 → vp_updL u i v k = v := by
  intro k hk
  unfold vp_updL
  by_cases e : k = i
  · rw [if_pos e]
  · rw [if_neg e]; exact h k (by omega)
theorem fillI_s {u w : Nat → Int32} {i : Nat} (h : ∀ k, k < i → u k = w k) : ∀ k, k < i + 1 → upd u i (w i) k = w k := by
  intro k hk
  unfold upd
  by_cases e : k = i
  · rw [if_pos e, e]
  · rw [if_neg e]; exact h k (by omega)
def vsm (va tx le : Nat → Int32) (n c v : Nat) : Int32 := smv va n c tx (v * 8) (tn (le v))
/-- the bytes of a typed number behind the first L -/
def apb (f : Nat → Int32) (L : Nat) (v : Int64) (n : Nat) : Nat → Nat → Int32
  | 0 => f
  | i + 1 => upd (apb f L v n i) (L + i) (nI (byt v (n - i - 1)))
theorem inc_m1 {a b : Nat} (h : a = b) : nI a + Int32.ofInt (-1) = nI b - nI 1 := by
  subst h
  rw [Int32.sub_eq_add_neg]
  rfl
theorem sub1_toInt {a : Nat} (h : a < 2 ^ 30) : (nI a - nI 1).toInt = (a : Int) - 1 := by rw [pk_sub_toInt h (by decide)]; rfl
/-- how many parts begin among the first k bytes; where part i begins and ends -/
def pn (t : Nat → Int32) : Nat → Nat
  | 0 => 0
  | k + 1 => if (t k).toInt ≠ 32 ∧ (ahd t 0 k).toInt = 32 then pn t k + 1 else pn t k
def psx (t : Nat → Int32) : Nat → Nat → Nat
  | 0, _ => 0
  | k + 1, i => if ((t k).toInt ≠ 32 ∧ (ahd t 0 k).toInt = 32) ∧ i = pn t k then k else psx t k i
def pex (t : Nat → Int32) : Nat → Nat → Nat
  | 0, _ => 0
  | k + 1, i => if (t k).toInt ≠ 32 ∧ i + 1 = pn t (k + 1) then k + 1 else pex t k i
theorem nI32 : (nI 32).toInt = 32 := by decide
theorem pn_room (t : Nat → Int32) : ∀ k, 2 * pn t k ≤ k + 1 ∧ ((ahd t 0 k).toInt = 32 → 2 * pn t k ≤ k) ∧ ((ahd t 0 k).toInt ≠ 32 → 1 ≤ pn t k)
  | 0 => ⟨by simp [pn], fun _ => by simp [pn], fun h => absurd nI32 h⟩
  | k + 1 => by
    obtain ⟨h1, h2, h3⟩ := pn_room t k
    have e : ahd t 0 (k + 1) = t k := by show t (0 + k) = t k; rw [Nat.zero_add]
    rw [e]
    unfold pn
    by_cases c : (t k).toInt ≠ 32 ∧ (ahd t 0 k).toInt = 32
    · rw [if_pos c]
      have := h2 c.2
      exact ⟨by omega, fun q => absurd q c.1, fun _ => by omega⟩
    · rw [if_neg c]
      refine ⟨by omega, fun _ => by omega, fun q => h3 (fun z => c ⟨q, z⟩)⟩
theorem pn_new {t : Nat → Int32} {k : Nat} (h1 : ¬ (t k).toInt = ((32 : Nat) : Int)) (h2 : (ahd t 0 k).toInt = ((32 : Nat) : Int)) : pn t (k + 1) = pn t k + 1 := by
  show (if _ then _ else _) = _
  rw [if_pos ⟨by omega, by omega⟩]
theorem pn_old {t : Nat → Int32} {k : Nat} (h : (t k).toInt = ((32 : Nat) : Int) ∨ ¬ (ahd t 0 k).toInt = ((32 : Nat) : Int)) : pn t (k + 1) = pn t k := by
  show (if _ then _ else _) = _
  rw [if_neg (by omega)]
/-- what the rows of a draft's parts hold behind k bytes -/
abbrev prow (t : Nat → Int32) (k : Nat) (st en : Nat → Int32) : Prop := ∀ i, i < pn t k → st i = nI (psx t k i) ∧ en i = nI (pex t k i)
theorem prow_sp {t : Nat → Int32} {k : Nat} {st en : Nat → Int32} (h : prow t k st en) (c : (t k).toInt = ((32 : Nat) : Int)) : prow t (k + 1) st en := by
  intro i hi
  rw [pn_old (Or.inl c)] at hi
  obtain ⟨h1, h2⟩ := h i hi
  unfold psx pex
  rw [if_neg (by omega), if_neg (by omega)]
  exact ⟨h1, h2⟩
theorem prow_in {t : Nat → Int32} {k : Nat} {st en : Nat → Int32} (h : prow t k st en) (c : ¬ (t k).toInt = ((32 : Nat) : Int)) (c2 : ¬ (ahd t 0 k).toInt = ((32 : Nat) : Int)) : prow t (k + 1) st (upd en (pn t k - 1) (nI (k + 1))) := by
  have hp := (pn_room t k).2.2 (by omega)
  have e := pn_old (t := t) (k := k) (Or.inr c2)
  intro i hi
  rw [e] at hi
  obtain ⟨h1, h2⟩ := h i hi
  unfold psx pex
  rw [if_neg (by omega), e]
  refine ⟨h1, ?_⟩
  unfold upd
  by_cases q : i = pn t k - 1
  · rw [if_pos q, if_pos (by omega)]
  · rw [if_neg q, if_neg (by omega)]; exact h2
theorem prow_new {t : Nat → Int32} {k : Nat} {st en : Nat → Int32} (h : prow t k st en) (c : ¬ (t k).toInt = ((32 : Nat) : Int)) (c2 : (ahd t 0 k).toInt = ((32 : Nat) : Int)) : prow t (k + 1) (upd st (pn t k) (nI k)) (upd en (pn t k) (nI (k + 1))) := by
  have e := pn_new c c2
  intro i hi
  rw [e] at hi
  unfold psx pex upd
  rw [e]
  by_cases q : i = pn t k
  · rw [if_pos q, if_pos q, if_pos ⟨⟨by omega, by omega⟩, q⟩, if_pos ⟨by omega, by omega⟩]
    exact ⟨rfl, rfl⟩
  · obtain ⟨h1, h2⟩ := h i (by omega)
    rw [if_neg q, if_neg q, if_neg (by omega), if_neg (by omega)]
    exact ⟨h1, h2⟩
/-- a part lies in the text -/
theorem pse (t : Nat → Int32) : ∀ k i, i < pn t k → psx t k i ≤ pex t k i ∧ pex t k i ≤ k
  | 0, i, h => absurd h (Nat.not_lt_zero i)
  | k + 1, i, h => by
    by_cases c : (t k).toInt ≠ 32
    · by_cases c2 : (ahd t 0 k).toInt = 32
      · have e := pn_new (t := t) (k := k) (by omega) (by omega)
        rw [e] at h
        unfold psx pex
        rw [e]
        by_cases q : i = pn t k
        · rw [if_pos ⟨⟨c, c2⟩, q⟩, if_pos ⟨c, by omega⟩]; omega
        · have := pse t k i (by omega)
          rw [if_neg (by omega), if_neg (by omega)]; omega
      · have e := pn_old (t := t) (k := k) (Or.inr (by omega))
        rw [e] at h
        have := pse t k i h
        unfold psx pex
        rw [if_neg (by omega), e]
        by_cases q : i + 1 = pn t k
        · rw [if_pos ⟨c, q⟩]; omega
        · rw [if_neg (by omega)]; omega
    · have e := pn_old (t := t) (k := k) (Or.inl (by omega))
      rw [e] at h
      have := pse t k i h
      unfold psx pex
      rw [if_neg (by omega), if_neg (by omega)]; omega
