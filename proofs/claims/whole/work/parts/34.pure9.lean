/-! ===== lanes of kept counts ===== -/
def lane (x : Int64) (f : Nat) : Nat := uN x / 2 ^ (16 * (f - 1)) % 65536
theorem lane_lt (x : Int64) (f : Nat) : lane x f < 2 ^ 63 := Nat.lt_of_lt_of_le (Nat.mod_lt _ (by decide)) (by decide)
theorem lane_x (x : Int64) {f : Nat} (h1 : 1 ≤ f) (h2 : f ≤ 4) : (x.toUInt64 >>> ((nI ((f - 1) * 16)).toInt64.toUInt64 &&& Int64.toUInt64 63)).toInt64 &&& lN 65535 = lN (lane x f) := by
  have h : (x.toUInt64 >>> ((nI ((f - 1) * 16)).toInt64.toUInt64 &&& Int64.toUInt64 63)).toInt64 = lN (uN x / 2 ^ ((f - 1) * 16)) := by
    apply uN_inj
    rw [uN_sk x (by omega), uN_lN (Nat.lt_of_le_of_lt (Nat.div_le_self _ _) (uN_lt x))]
  rw [h, show lN 65535 = lN (2 ^ 16 - 1) from rfl, fb_maskL]
  unfold lane
  rw [Nat.mul_comm (f - 1) 16]
abbrev keptOK (kp : Nat → Int64) (W : Nat → Nat → Nat → Nat) : Prop := ∀ b t f, b < 3 → t ≤ 3000 → 1 ≤ f → f ≤ 4 → lane (kp (b * 3001 + t)) f = 0 ∨ lane (kp (b * 3001 + t)) f = W f b t + 1
theorem uN_orL (x y : Int64) : uN (x ||| y) = uN x ||| uN y := UInt64.toNat_or _ _
theorem lane_or (x y : Int64) (f : Nat) : lane (x ||| y) f = lane x f ||| lane y f := by
  unfold lane
  rw [uN_orL]
  apply Nat.eq_of_testBit_eq
  intro i
  simp only [Nat.testBit_or, show (65536 : Nat) = 2 ^ 16 from rfl, Nat.testBit_mod_two_pow, Nat.testBit_div_two_pow]
  cases decide (i < 16) <;> simp
theorem lane_sh {m f g : Nat} (hm : m < 65536) (h1 : 1 ≤ f) (h2 : f ≤ 4) (g1 : 1 ≤ g) (g2 : g ≤ 4) : lane (lN m <<< ((nI ((f - 1) * 16)).toInt64 &&& 63)) g = if g = f then m else 0 := by
  rw [wb_shl m (by omega)]
  unfold lane
  rcases (show f = 1 ∨ f = 2 ∨ f = 3 ∨ f = 4 by omega) with rfl | rfl | rfl | rfl <;> (rw [uN_lN (by omega)]; rcases (show g = 1 ∨ g = 2 ∨ g = 3 ∨ g = 4 by omega) with rfl | rfl | rfl | rfl <;> simp <;> omega)
theorem kept_put {kp : Nat → Int64} {W : Nat → Nat → Nat → Nat} {b t f : Nat} (h : keptOK kp W) (hb : b < 3) (ht : t ≤ 3000) (h1 : 1 ≤ f) (h2 : f ≤ 4) (hW : W f b t < 65535) : keptOK (vp_updL kp (b * 3001 + t) (kp (b * 3001 + t) ||| (lN (W f b t + 1) <<< ((nI ((f - 1) * 16)).toInt64 &&& 63)))) W := by
  intro b2 t2 f2 q1 q2 q3 q4
  by_cases e : b2 * 3001 + t2 = b * 3001 + t
  · have e1 : b2 = b := by omega
    have e2 : t2 = t := by omega
    subst e1; subst e2
    rw [pk_uLs, lane_or, lane_sh (by omega) h1 h2 q3 q4]
    by_cases e3 : f2 = f
    · subst e3
      rw [if_pos rfl]
      rcases h b2 t2 f2 q1 q2 q3 q4 with z | z
      · rw [z, Nat.zero_or]; exact Or.inr rfl
      · rw [z, Nat.or_self]; exact Or.inr rfl
    · rw [if_neg e3, Nat.or_zero]
      exact h b2 t2 f2 q1 q2 q3 q4
  · rw [pk_uLn e]
    exact h b2 t2 f2 q1 q2 q3 q4
theorem lsq_le {fe so nx : Nat → Int32} {ow : Nat → Nat} {w : Nat → Nat → Nat → Nat} {f s t B : Nat} : ∀ n, (∀ v, v < n → tn (fe v) ≤ f → w (f - tn (fe v)) (tn (so v)) (t - ow v) ≤ B) → lsq fe so nx ow w f s t n ≤ n * B
  | 0, _ => Nat.zero_le _
  | n + 1, h => by
    show lsq fe so nx ow w f s t n + lst fe so nx ow w f s t n ≤ _
    have h1 := lsq_le (nx := nx) (s := s) n (fun v hv => h v (by omega))
    have h2 : lst fe so nx ow w f s t n ≤ B := by
      unfold lst
      by_cases c : tn (fe n) ≤ f ∧ ow n ≤ t ∧ mcy nx so s n
      · rw [if_pos c]; exact h n (by omega) c.1
      · rw [if_neg c]; exact Nat.zero_le _
    rw [Nat.succ_mul]; omega
theorem lwf_le {fe so nx : Nat → Int32} {ow : Nat → Nat} {nv : Nat} (hn : nv ≤ 10) (hf : okV fe nv 1 3) : ∀ k f s t, f ≤ k → lwf fe so nx ow nv k f s t ≤ 10 ^ f
  | 0, f, s, t, h => by
    have : f = 0 := by omega
    subst this
    unfold lwf; split <;> simp
  | k + 1, f, s, t, h => by
    unfold lwf
    by_cases c : f = 0
    · subst c; rw [if_pos rfl]; split <;> simp
    · rw [if_neg c]
      obtain ⟨j, rfl⟩ : ∃ j, f = j + 1 := ⟨f - 1, by omega⟩
      have h1 := lsq_le (fe := fe) (so := so) (nx := nx) (ow := ow) (w := lwf fe so nx ow nv k) (f := j + 1) (s := s) (t := t) (B := 10 ^ j) nv (fun v hv hle => Nat.le_trans (lwf_le hn hf k _ _ _ (by have := (hf v hv).2.1; omega)) (Nat.pow_le_pow_right (by decide) (by have := (hf v hv).2.1; omega)))
      refine Nat.le_trans h1 ?_
      rw [Nat.pow_succ, Nat.mul_comm (10 ^ j) 10]
      exact Nat.mul_le_mul_right _ hn
theorem lwy_le {fe so nx : Nat → Int32} {ow : Nat → Nat} {nv f s t : Nat} (hn : nv ≤ 10) (hf : okV fe nv 1 3) : lwy fe so nx ow nv f s t ≤ 10 ^ f := lwf_le hn hf f f s t (Nat.le_refl _)
theorem lwy_4 {fe so nx : Nat → Int32} {ow : Nat → Nat} {nv f s t : Nat} (hn : nv ≤ 10) (hf : okV fe nv 1 3) (h : f ≤ 4) : lwy fe so nx ow nv f s t < 65535 := Nat.lt_of_le_of_lt (Nat.le_trans (lwy_le hn hf) (Nat.pow_le_pow_right (by decide) h)) (by decide)
theorem m1_toInt : (-1 : Int32).toInt = -1 := by decide
/-- the contract of waysOn at ft feet left -/
def KW (l : Launch) (g : GW) (asked : Int64) (values : Nat → Int32) (bytes : Nat → Int32) (starts : Nat → Int32) (ends : Nat → Int32) (length : Int32) (parts : Int32) (texts : Nat → Int32) (lengths : Nat → Int32) (feet : Nat → Int32) (sorts : Nat → Int32) (nxt : Nat → Int32) (sums : Nat → Int32) (oneSums : Nat → Int32) (otherSums : Nat → Int32) (byFeet : Nat → Int64) (over : Int32) (rcount : Int32) (rcust : Int32) (ssums : Nat → Int32) (ways : Nat → Int64) (nextWays : Nat → Int64) (reached : Nat → Int64) (nextReached : Nat → Int64) (found : Int32) (least : Int32) (greatest : Int32) (nv : Nat) (ow : Nat → Nat) (ft : Nat) : Prop := ∀ (behind rest : Nat) (kept : Nat → Int64) (sz : Nat), behind < 4 → rest ≤ 3000 → keptOK kept (lwy feet sorts nxt ow nv) → Met l yX3_waysOn wsX3_waysOn ({ frames := 3 * ft + 3, cells := 0, slots := 0, locals := 90 * ft + 90 }) (va_Pc ([.ref (g.2.2 13), .int (nI (behind)), .int (nI (ft)), .int (nI (rest))]) (qW g (wX g asked values bytes starts ends length parts texts lengths feet sorts nxt (nI (nv)) sums oneSums otherSums byFeet kept over rcount rcust ssums ways nextWays reached nextReached found least greatest) sz)) (va_Ql (fun (r : Int64) (z : (Nat → Int64)) => r = lN (lwy feet sorts nxt ow nv ft behind rest) ∧ keptOK z (lwy feet sorts nxt ow nv)) (fun (z : (Nat → Int64)) (t : State) => va_P g.1 vwCl (wX g asked values bytes starts ends length parts texts lengths feet sorts nxt (nI (nv)) sums oneSums otherSums byFeet z over rcount rcust ssums ways nextWays reached nextReached found least greatest) t.heap) (aW 25 g.2.2 sz)) 0 0 (aW 25 g.2.2 sz)
