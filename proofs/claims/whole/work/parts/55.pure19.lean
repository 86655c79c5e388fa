/-! ===== the years that a stone can mean ===== -/
def yr (t tx le so nx : Nat → Int32) (ow : Nat → Nat) (L nv : Nat) : Nat → Nat → Nat → Prop
  | 0, s, y => s = 3 ∧ y = 0
  | i + 1, s, y => ∃ v, v < nv ∧ fitP t tx le L i v ∧ tn (so v) = s ∧ ow v ≤ y ∧ ∃ b, b < 4 ∧ mcy nx so b v ∧ yr t tx le so nx ow L nv i b (y - ow v)
theorem shw_b (r : Nat → Int64) (fr b y : Nat) (h : b / 64 ≤ y / 64) : (uN (shw r fr b (y / 64))).testBit (y % 64) = (decide (b ≤ y) && bitA r fr (y - b)) := by
  have hp : b % 64 < 64 := Nat.mod_lt _ (by decide)
  have hj : y % 64 < 64 := Nat.mod_lt _ (by decide)
  have d1 := Nat.div_add_mod b 64
  have d2 := Nat.div_add_mod y 64
  by_cases c : 0 < b % 64 ∧ 0 < y / 64 - b / 64
  · rw [← shw_y c.1 c.2, tb_or, tb_shl _ hp hj, tb_shr _ (by omega)]
    rw [decide_eq_true (show b ≤ y by omega), Bool.true_and]
    unfold bitA
    by_cases q : b % 64 ≤ y % 64
    · rw [decide_eq_true q, Bool.true_and, tb_big _ (show 64 ≤ 64 - b % 64 + y % 64 by omega), Bool.or_false, show (y - b) / 64 = y / 64 - b / 64 by omega, show (y - b) % 64 = y % 64 - b % 64 by omega]
    · rw [decide_eq_false q, Bool.false_and, Bool.false_or, show (y - b) % 64 = 64 - b % 64 + y % 64 by omega, show fr + (y - b) / 64 = fr + (y / 64 - b / 64) - 1 by omega]
  · rw [← shw_n c, tb_shl _ hp hj]
    by_cases q : b % 64 ≤ y % 64
    · rw [decide_eq_true q, decide_eq_true (show b ≤ y by omega)]
      unfold bitA
      rw [show (y - b) / 64 = y / 64 - b / 64 by omega, show (y - b) % 64 = y % 64 - b % 64 by omega]
    · rw [decide_eq_false q, decide_eq_false (show ¬ b ≤ y by omega), Bool.false_and, Bool.false_and]
theorem asf_b (nr r : Nat → Int64) (fr s s2 b y : Nat) (hy : y < 3008) : bitA (asf nr r fr (s * 47) b 47) (s2 * 47) y = (bitA nr (s2 * 47) y || (decide (s2 = s) && (decide (b ≤ y) && bitA r fr (y - b)))) := by
  have hk : y / 64 < 47 := by omega
  unfold bitA
  show (uN (asf nr r fr (s * 47) b 47 (s2 * 47 + y / 64))).testBit (y % 64) = _
  unfold asf
  by_cases c : s2 = s
  · subst c
    by_cases q : b / 64 ≤ y / 64
    · rw [if_pos (by omega), tb_or, show s2 * 47 + y / 64 - s2 * 47 = y / 64 by omega, shw_b r fr b y q, decide_eq_true (rfl : s2 = s2), Bool.true_and]; rfl
    · rw [if_neg (by omega), decide_eq_false (show ¬ b ≤ y by omega), Bool.false_and, Bool.and_false, Bool.or_false]
  · rw [if_neg (by omega), decide_eq_false c, Bool.false_and, Bool.or_false]
theorem rwf_b (nr r : Nat → Int64) (so nx : Nat → Int32) (b v s y : Nat) (hy : y < 3008) : ∀ k, bitA (rwf nr r so nx b v k) (s * 47) y = true ↔ (bitA nr (s * 47) y = true ∨ (tn (so v) = s ∧ b ≤ y ∧ ∃ a, a < k ∧ mcy nx so a v ∧ bitA r (a * 47) (y - b) = true))
  | 0 => ⟨Or.inl, fun h => h.elim id (fun q => by obtain ⟨_, _, a, ha, _⟩ := q; exact absurd ha (Nat.not_lt_zero a))⟩
  | k + 1 => by
    have ih := rwf_b nr r so nx b v s y hy k
    by_cases c : mcy nx so k v
    · rw [← rwf_y c, asf_b _ _ _ _ _ _ _ hy, Bool.or_eq_true, Bool.and_eq_true, Bool.and_eq_true, decide_eq_true_eq, decide_eq_true_eq, ih]
      constructor
      · rintro ((h | ⟨h1, h2, a, ha, h3⟩) | ⟨h1, h2, h3⟩)
        · exact Or.inl h
        · exact Or.inr ⟨h1, h2, a, by omega, h3⟩
        · exact Or.inr ⟨h1.symm, h2, k, by omega, c, h3⟩
      · rintro (h | ⟨h1, h2, a, ha, h3, h4⟩)
        · exact Or.inl (Or.inl h)
        · by_cases e : a = k
          · subst e; exact Or.inr ⟨h1.symm, h2, h4⟩
          · exact Or.inl (Or.inr ⟨h1, h2, a, by omega, h3, h4⟩)
    · rw [← rwf_n c, ih]
      constructor
      · rintro (h | ⟨h1, h2, a, ha, h3⟩)
        · exact Or.inl h
        · exact Or.inr ⟨h1, h2, a, by omega, h3⟩
      · rintro (h | ⟨h1, h2, a, ha, h3, h4⟩)
        · exact Or.inl h
        · by_cases e : a = k
          · subst e; exact absurd h3 c
          · exact Or.inr ⟨h1, h2, a, by omega, h3, h4⟩
theorem rpf_b (u0 r : Nat → Int64) (t tx le so nx : Nat → Int32) (L i : Nat) (ow : Nat → Nat) (s y : Nat) (hy : y < 3008) : ∀ n, bitA (rpf u0 r t tx le so nx L i ow n) (s * 47) y = true ↔ (bitA u0 (s * 47) y = true ∨ ∃ v, v < n ∧ fitP t tx le L i v ∧ tn (so v) = s ∧ ow v ≤ y ∧ ∃ a, a < 4 ∧ mcy nx so a v ∧ bitA r (a * 47) (y - ow v) = true)
  | 0 => ⟨Or.inl, fun h => h.elim id (fun q => by obtain ⟨a, ha, _⟩ := q; exact absurd ha (Nat.not_lt_zero a))⟩
  | n + 1 => by
    have ih := rpf_b u0 r t tx le so nx L i ow s y hy n
    by_cases c : fitP t tx le L i n
    · rw [← rpf_y c, rwf_b _ _ _ _ _ _ _ _ hy, ih]
      constructor
      · rintro ((h | ⟨v, hv, h1⟩) | ⟨h1, h2, h3⟩)
        · exact Or.inl h
        · exact Or.inr ⟨v, by omega, h1⟩
        · exact Or.inr ⟨n, by omega, c, h1, h2, h3⟩
      · rintro (h | ⟨v, hv, h1, h2⟩)
        · exact Or.inl (Or.inl h)
        · by_cases e : v = n
          · subst e; exact Or.inr h2
          · exact Or.inl (Or.inr ⟨v, by omega, h1, h2⟩)
    · rw [← rpf_n c, ih]
      constructor
      · rintro (h | ⟨v, hv, h1⟩)
        · exact Or.inl h
        · exact Or.inr ⟨v, by omega, h1⟩
      · rintro (h | ⟨v, hv, h1, h2⟩)
        · exact Or.inl h
        · by_cases e : v = n
          · subst e; exact absurd h1 c
          · exact Or.inr ⟨v, by omega, h1, h2⟩
theorem bitA_cg {f f2 : Nat → Int64} {s y : Nat} (h : ∀ j, j < 188 → f j = f2 j) (hs : s < 4) (hy : y < 3008) : bitA f (s * 47) y = bitA f2 (s * 47) y := by
  unfold bitA; rw [h _ (by omega)]
theorem bitA_0 {f : Nat → Int64} {s y : Nat} (h : ∀ j, j < 188 → f j = lN 0) (hs : s < 4) (hy : y < 3008) : bitA f (s * 47) y = false := by
  unfold bitA; rw [h _ (by omega), uN_lN (by decide), Nat.zero_testBit]
/-- the words hold what is reached behind i parts -/
def yrW (r : Nat → Int64) (t tx le so nx : Nat → Int32) (ow : Nat → Nat) (L nv i : Nat) : Prop := ∀ s y, s < 4 → y < 3008 → (bitA r (s * 47) y = true ↔ yr t tx le so nx ow L nv i s y)
theorem yrW_0 {r : Nat → Int64} {t tx le so nx : Nat → Int32} {ow : Nat → Nat} {L nv : Nat} (h : ∀ j, j < 188 → r j = lN 0) : yrW (vp_updL r 141 (lN 1)) t tx le so nx ow L nv 0 := by
  intro s y hs hy
  show _ ↔ (s = 3 ∧ y = 0)
  unfold bitA vp_updL
  by_cases c : s * 47 + y / 64 = 141
  · rw [if_pos c, uN_lN (by decide)]
    have : s = 3 := by omega
    subst this
    have h2 : y / 64 = 0 := by omega
    have h3 : y % 64 = y := by omega
    rw [h3]
    constructor
    · intro q
      refine ⟨rfl, ?_⟩
      rcases Nat.eq_zero_or_pos y with e | e
      · exact e
      · rw [Nat.testBit_lt_two_pow (Nat.lt_of_lt_of_le (by decide : 1 < 2 ^ 1) (Nat.pow_le_pow_right (by decide) e))] at q
        cases q
    · rintro ⟨-, rfl⟩; rfl
  · rw [if_neg c, h _ (by omega), uN_lN (by decide), Nat.zero_testBit]
    constructor
    · intro q; cases q
    · rintro ⟨rfl, rfl⟩; omega
theorem yrW_s {r r2 : Nat → Int64} {t tx le so nx : Nat → Int32} {ow : Nat → Nat} {L nv i : Nat} (h : yrW r t tx le so nx ow L nv i) (h2 : ∃ u0 : Nat → Int64, (∀ j, j < 188 → u0 j = lN 0) ∧ ∀ j, j < 188 → r2 j = rpf u0 r t tx le so nx L i ow nv j) : yrW r2 t tx le so nx ow L nv (i + 1) := by
  obtain ⟨u0, hu, hr⟩ := h2
  intro s y hs hy
  rw [bitA_cg hr hs hy, rpf_b _ _ _ _ _ _ _ _ _ _ _ _ hy]
  show _ ↔ ∃ v, v < nv ∧ fitP t tx le L i v ∧ tn (so v) = s ∧ ow v ≤ y ∧ ∃ b, b < 4 ∧ mcy nx so b v ∧ yr t tx le so nx ow L nv i b (y - ow v)
  constructor
  · rintro (q | ⟨v, h1, h2, h3, h4, a, h5, h6, h7⟩)
    · rw [bitA_0 hu hs hy] at q; cases q
    · exact ⟨v, h1, h2, h3, h4, a, h5, h6, (h a _ h5 (by omega)).mp h7⟩
  · rintro ⟨v, h1, h2, h3, h4, a, h5, h6, h7⟩
    exact Or.inr ⟨v, h1, h2, h3, h4, a, h5, h6, (h a _ h5 (by omega)).mpr h7⟩
/-- how many years there are below y, the first one, the last one -/
noncomputable def ycn (Q : Nat → Prop) : Nat → Nat
  | 0 => 0
  | y + 1 => ycn Q y + @ite Nat (Q y) (Classical.propDecidable _) 1 0
noncomputable def yfi (Q : Nat → Prop) : Nat → Int32
  | 0 => (-9 : Int32)
  | y + 1 => @ite Int32 (Q y) (Classical.propDecidable _) (if (yfi Q y).toInt = (-9 : Int32).toInt then nI y else yfi Q y) (yfi Q y)
noncomputable def yla (Q : Nat → Prop) : Nat → Int32
  | 0 => (-9 : Int32)
  | y + 1 => @ite Int32 (Q y) (Classical.propDecidable _) (nI y) (yla Q y)
theorem ycn_y {Q : Nat → Prop} {y : Nat} (h : Q y) : ycn Q y + 1 = ycn Q (y + 1) := by
  show _ = ycn Q y + @ite Nat (Q y) (Classical.propDecidable _) 1 0; rw [if_pos h]
theorem ycn_n {Q : Nat → Prop} {y : Nat} (h : ¬ Q y) : ycn Q y = ycn Q (y + 1) := by
  show _ = ycn Q y + @ite Nat (Q y) (Classical.propDecidable _) 1 0; rw [if_neg h]; rfl
theorem yfi_n {Q : Nat → Prop} {y : Nat} (h : ¬ Q y) : yfi Q y = yfi Q (y + 1) := by
  show _ = @ite Int32 (Q y) (Classical.propDecidable _) _ _; rw [if_neg h]
theorem yfi_o {Q : Nat → Prop} {y : Nat} (h : Q y) (h2 : ¬ (yfi Q y).toInt = (-9 : Int32).toInt) : yfi Q y = yfi Q (y + 1) := by
  show _ = @ite Int32 (Q y) (Classical.propDecidable _) _ _; rw [if_pos h, if_neg h2]
theorem yfi_f {Q : Nat → Prop} {y : Nat} (h : Q y) (h2 : (yfi Q y).toInt = (-9 : Int32).toInt) : nI y = yfi Q (y + 1) := by
  show _ = @ite Int32 (Q y) (Classical.propDecidable _) _ _; rw [if_pos h, if_pos h2]
theorem yla_y {Q : Nat → Prop} {y : Nat} (h : Q y) : nI y = yla Q (y + 1) := by
  show _ = @ite Int32 (Q y) (Classical.propDecidable _) _ _; rw [if_pos h]
theorem yla_n {Q : Nat → Prop} {y : Nat} (h : ¬ Q y) : yla Q y = yla Q (y + 1) := by
  show _ = @ite Int32 (Q y) (Classical.propDecidable _) _ _; rw [if_neg h]
theorem ycn_le (Q : Nat → Prop) : ∀ y, ycn Q y ≤ y
  | 0 => Nat.le_refl 0
  | y + 1 => by
    have := ycn_le Q y
    rcases Classical.em (Q y) with h | h
    · rw [← ycn_y h]; omega
    · rw [← ycn_n h]; omega
theorem y_skip {Q : Nat → Prop} {a : Nat} : ∀ d, (∀ z, a ≤ z → z < a + d → ¬ Q z) → ycn Q a = ycn Q (a + d) ∧ yfi Q a = yfi Q (a + d) ∧ yla Q a = yla Q (a + d)
  | 0, _ => ⟨rfl, rfl, rfl⟩
  | d + 1, h => by
    obtain ⟨h1, h2, h3⟩ := y_skip d (fun z hz hz2 => h z hz (by omega))
    have q := h (a + d) (by omega) (by omega)
    exact ⟨h1.trans (ycn_n q), h2.trans (yfi_n q), h3.trans (yla_n q)⟩
abbrev yq (t tx le so nx : Nat → Int32) (ow : Nat → Nat) (L nv i y : Nat) : Prop := yr t tx le so nx ow L nv i 0 y ∨ yr t tx le so nx ow L nv i 1 y ∨ yr t tx le so nx ow L nv i 2 y
/-- a word of all three rows together -/
def bo (r : Nat → Int64) (w : Nat) : Nat → Int64
  | 0 => lN 0
  | k + 1 => bo r w k ||| r (k * 47 + w)
theorem bo_b {r : Nat → Int64} {t tx le so nx : Nat → Int32} {ow : Nat → Nat} {L nv i w j : Nat} (h : yrW r t tx le so nx ow L nv i) (hw : w < 47) (hj : j < 64) : (uN (bo r w 3)).testBit j = true ↔ yq t tx le so nx ow L nv i (64 * w + j) := by
  have q : ∀ s, s < 4 → ((uN (r (s * 47 + w))).testBit j = true ↔ yr t tx le so nx ow L nv i s (64 * w + j)) := by
    intro s hs
    have := h s (64 * w + j) hs (by omega)
    unfold bitA at this
    rw [show (64 * w + j) / 64 = w by omega, show (64 * w + j) % 64 = j by omega] at this
    exact this
  show (uN (lN 0 ||| r (0 * 47 + w) ||| r (1 * 47 + w) ||| r (2 * 47 + w))).testBit j = true ↔ _
  rw [tb_or, tb_or, tb_or, uN_lN (by decide), Nat.zero_testBit, Bool.false_or, Bool.or_eq_true, Bool.or_eq_true, q 0 (by decide), q 1 (by decide), q 2 (by decide)]
  exact or_assoc
theorem tb_1 (x : Int64) : (x &&& lN 1).toInt = (lN 1).toInt ↔ (uN x).testBit 0 = true := by
  have h : x &&& lN 1 = lN (uN x % 2) := by
    have := wb_a1 (show uN x < 2 ^ 64 from uN_lt x)
    rw [lN_uN] at this; exact this
  rw [h, cx_T (by omega), cx_T (by decide), Nat.testBit_zero, decide_eq_true_eq]
  omega
theorem tb_nz {x : Int64} (h : ¬ x.toInt = (lN 0).toInt) : ∃ j, (uN x).testBit j = true := by
  have : uN x ≠ 0 := fun e => h (by rw [show x = lN 0 from uN_inj (by rw [e, uN_lN (by decide)])])
  exact Nat.exists_testBit_of_ne_zero this
theorem tb_z {x : Int64} (h : x.toInt = (lN 0).toInt) (j : Nat) : (uN x).testBit j = false := by
  rw [show x = lN 0 from Int64.toInt_inj.mp h, uN_lN (by decide), Nat.zero_testBit]
/-- the answer of years -/
noncomputable def aYears (va t tx le so nx : Nat → Int32) (L nv : Nat) (n c w : Int32) : Int32 :=
  if way n c ∧ (0 ≤ w.toInt ∧ w.toInt < 4) then (if pn t L = 0 then (-2 : Int32) else
    if w.toInt = 0 then nI (ycn (yq t tx le so nx (owf va tx le (tn n) (tn c)) L nv (pn t L)) 3001)
    else if w.toInt = 1 then yfi (yq t tx le so nx (owf va tx le (tn n) (tn c)) L nv (pn t L)) 3001
    else if w.toInt = 2 then yla (yq t tx le so nx (owf va tx le (tn n) (tn c)) L nv (pn t L)) 3001
    else if ycn (yq t tx le so nx (owf va tx le (tn n) (tn c)) L nv (pn t L)) 3001 = 1 then nI 1 else nI 0) else (-1 : Int32)
