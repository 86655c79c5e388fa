/-! ===== the answers of the small calls ===== -/
abbrev fitP (t tx le : Nat → Int32) (L i v : Nat) : Prop := tn (le v) = pex t L i - psx t L i ∧ ∀ k, k < pex t L i - psx t L i → ((t (psx t L i + k)).toInt = 63 ∨ (t (psx t L i + k)).toInt = (tx (v * 8 + k)).toInt)
/-- how many of the first vocables fit a part -/
def fitc (t tx le : Nat → Int32) (L i : Nat) : Nat → Nat
  | 0 => 0
  | k + 1 => fitc t tx le L i k + (if fitP t tx le L i k then 1 else 0)
theorem fitc_y {t tx le : Nat → Int32} {L i k : Nat} (h : fitP t tx le L i k) : fitc t tx le L i k + 1 = fitc t tx le L i (k + 1) := by
  show _ = fitc t tx le L i k + (if fitP t tx le L i k then 1 else 0)
  rw [if_pos h]
theorem fitc_n {t tx le : Nat → Int32} {L i k : Nat} (h : ¬ fitP t tx le L i k) : fitc t tx le L i k = fitc t tx le L i (k + 1) := by
  show _ = fitc t tx le L i k + (if fitP t tx le L i k then 1 else 0)
  rw [if_neg h]; rfl
theorem fitc_le (t tx le : Nat → Int32) (L i : Nat) : ∀ k, fitc t tx le L i k ≤ k
  | 0 => Nat.le_refl 0
  | k + 1 => by have := fitc_le t tx le L i k; show fitc t tx le L i k + (if fitP t tx le L i k then 1 else 0) ≤ _; split <;> omega
/-- the sum of what stands behind the places from which a vocable may come -/
def wto (nx so : Nat → Int32) (w : Nat → Nat) (v : Nat) : Nat → Nat
  | 0 => 0
  | k + 1 => wto nx so w v k + (if mcy nx so k v then w k else 0)
theorem wto_y {nx so : Nat → Int32} {w : Nat → Nat} {v k : Nat} (h : mcy nx so k v) : wto nx so w v k + w k = wto nx so w v (k + 1) := by
  show _ = wto nx so w v k + (if mcy nx so k v then w k else 0)
  rw [if_pos h]
theorem wto_n {nx so : Nat → Int32} {w : Nat → Nat} {v k : Nat} (h : ¬ mcy nx so k v) : wto nx so w v k = wto nx so w v (k + 1) := by
  show _ = wto nx so w v k + (if mcy nx so k v then w k else 0)
  rw [if_neg h]; rfl
/-- one step of many: with f feet left behind s, over the first vocables -/
def stq (fe so nx : Nat → Int32) (w : Nat → Nat → Nat) (f s : Nat) : Nat → Nat
  | 0 => 0
  | v + 1 => stq fe so nx w f s v + (if tn (fe v) ≤ f ∧ mcy nx so s v then w (f - tn (fe v)) (tn (so v)) else 0)
theorem stq_y {fe so nx : Nat → Int32} {w : Nat → Nat → Nat} {f s v : Nat} (h : tn (fe v) ≤ f) (h2 : mcy nx so s v) : stq fe so nx w f s v + w (f - tn (fe v)) (tn (so v)) = stq fe so nx w f s (v + 1) := by
  show _ = stq fe so nx w f s v + (if tn (fe v) ≤ f ∧ mcy nx so s v then w (f - tn (fe v)) (tn (so v)) else 0)
  rw [if_pos ⟨h, h2⟩]
theorem stq_n {fe so nx : Nat → Int32} {w : Nat → Nat → Nat} {f s v : Nat} (h : ¬ (tn (fe v) ≤ f ∧ mcy nx so s v)) : stq fe so nx w f s v = stq fe so nx w f s (v + 1) := by
  show _ = stq fe so nx w f s v + (if tn (fe v) ≤ f ∧ mcy nx so s v then w (f - tn (fe v)) (tn (so v)) else 0)
  rw [if_neg h]; rfl
/-- many: by fuel -/
def mwf (fe so nx : Nat → Int32) (nv : Nat) : Nat → Nat → Nat → Nat
  | 0, _, _ => 1
  | k + 1, f, s => if f = 0 then 1 else stq fe so nx (mwf fe so nx nv k) f s nv
def mwy (fe so nx : Nat → Int32) (nv f s : Nat) : Nat := mwf fe so nx nv f f s
theorem stq_cong {fe so nx : Nat → Int32} {w w2 : Nat → Nat → Nat} {f s : Nat} : ∀ {n : Nat}, (∀ v, v < n → tn (fe v) ≤ f → w (f - tn (fe v)) (tn (so v)) = w2 (f - tn (fe v)) (tn (so v))) → stq fe so nx w f s n = stq fe so nx w2 f s n
  | 0, _ => rfl
  | n + 1, h => by
    unfold stq
    rw [stq_cong (fun v hv => h v (by omega))]
    by_cases c : tn (fe n) ≤ f ∧ mcy nx so s n
    · rw [if_pos c, if_pos c, h n (by omega) c.1]
    · rw [if_neg c, if_neg c]
theorem mwf_st {fe so nx : Nat → Int32} {nv : Nat} (hf : okV fe nv 1 3) : ∀ k k2 f s, f ≤ k → f ≤ k2 → mwf fe so nx nv k f s = mwf fe so nx nv k2 f s
  | 0, 0, _, _, _, _ => rfl
  | 0, k2 + 1, f, s, h, _ => by
    have : f = 0 := by omega
    subst this
    unfold mwf; rw [if_pos rfl]
  | k + 1, 0, f, s, _, h => by
    have : f = 0 := by omega
    subst this
    unfold mwf; rw [if_pos rfl]
  | k + 1, k2 + 1, f, s, h, h2 => by
    unfold mwf
    by_cases c : f = 0
    · rw [if_pos c, if_pos c]
    · rw [if_neg c, if_neg c]
      exact stq_cong fun v hv hle => mwf_st hf k k2 _ _ (by have := (hf v hv).2.1; omega) (by have := (hf v hv).2.1; omega)
theorem mwy_0 (fe so nx : Nat → Int32) (nv s : Nat) : mwy fe so nx nv 0 s = 1 := rfl
theorem mwy_s {fe so nx : Nat → Int32} {nv f s : Nat} (hf : okV fe nv 1 3) (h : 1 ≤ f) : stq fe so nx (mwy fe so nx nv) f s nv = mwy fe so nx nv f s := by
  obtain ⟨k, rfl⟩ : ∃ k, f = k + 1 := ⟨f - 1, by omega⟩
  show _ = mwf fe so nx nv (k + 1) (k + 1) s
  unfold mwf
  rw [if_neg (by omega)]
  exact stq_cong fun v hv hle => mwf_st hf _ k _ _ (Nat.le_refl _) (by have := (hf v hv).2.1; omega)
abbrev way (n c : Int32) : Prop := (0 ≤ n.toInt ∧ n.toInt < 3) ∧ (0 ≤ c.toInt ∧ c.toInt < 4)
abbrev isVal (v : Int32) : Prop := v.toInt = 0 ∨ v.toInt = 1 ∨ v.toInt = 5 ∨ v.toInt = 10 ∨ v.toInt = 50 ∨ v.toInt = 100 ∨ v.toInt = 500 ∨ v.toInt = 1000
abbrev okT (v : Int64) (k : Int32) : Prop := (1 ≤ k.toInt ∧ k.toInt ≤ 8) ∧ ∀ j, j < tn k → okb (byt v j)
def aSum (va t : Nat → Int32) (L : Nat) (n c : Int32) : Int32 := if way n c then smv va (tn n) (tn c) t 0 L else (-1 : Int32)
def aAbout (le fe so tx : Nat → Int32) (nv : Nat) (v w : Int32) : Int32 := if 0 ≤ v.toInt ∧ v.toInt < (nv : Int) then (if w.toInt = 0 then le (tn v) else if w.toInt = 1 then fe (tn v) else if w.toInt = 2 then so (tn v) else if w.toInt = 3 then tx (tn v * 8) else (-1 : Int32)) else (-1 : Int32)
def aCount (t : Nat → Int32) (nv L : Nat) (w : Int32) : Int32 := if w.toInt = 0 then nI nv else if w.toInt = 1 then nI L else if w.toInt = 2 then nI (pn t L) else if w.toInt = 3 then nI (brk t L) else (-1 : Int32)
def aFit (t tx le : Nat → Int32) (L nv : Nat) (i : Int32) : Int32 := if 0 ≤ i.toInt ∧ i.toInt < (pn t L : Int) then nI (fitc t tx le L (tn i) nv) else (-1 : Int32)
/-- the set of customs and countings that bear a year out: after custom c, counting k of it -/
def bn1 (va t : Nat → Int32) (L : Nat) (y : Int32) (c : Nat) (b : Int32) : Nat → Int32
  | 0 => b
  | k + 1 => if (smv va k c t 0 L).toInt = y.toInt then bn1 va t L y c b k ||| (nI 1 <<< (nI (3 * c + k) &&& 31)) else bn1 va t L y c b k
def bnc (va t : Nat → Int32) (L : Nat) (y : Int32) : Nat → Int32
  | 0 => nI 0
  | c + 1 => bn1 va t L y c (bnc va t L y c) 3
def aBorne (va t : Nat → Int32) (L : Nat) (y : Int32) : Int32 := if 0 ≤ y.toInt ∧ y.toInt ≤ 60000 then bnc va t L y 4 else (-1 : Int32)
/-! ===== static tables ===== -/
def tabV : Nat → Value := fun k => .int (nI (([0, 1, 5, 10, 50, 100, 500, 1000] : List Nat).getD k 0))
def tabA : Nat → Value := fun k => .int (nI (([1, 11, 111] : List Nat).getD k 0))
def stS (n : String) (N : Nat) (f : Nat → Value) (U : State) : Prop := ∃ t : Nat, va_Z "VerseYears" n "[I" (.ref t) (fun _ => False) U U.heap ∧ va_T .int t N f (fun _ => False) U U.heap
theorem stS_bl {n : String} {N : Nat} {f : Nat → Value} (U : State) (j : JFrame) (mk : MethodId) (a : Array Value) (h : stS n N f U) : stS n N f (U.calling j mk a) := by
  obtain ⟨t, h1, h2⟩ := h
  exact ⟨t, va_Z.moved (u := U) (U := U.calling j mk a) (Vm.Alike.refl U.vm) h1, va_T.moved (u := U) (U := U.calling j mk a) (Vm.Alike.refl U.vm) h2⟩
theorem stS_of {n : String} {N : Nat} {f : Nat → Value} {s U : State} (h : stS n N f s) (hU : U.heap = s.heap) (hW : s.WarmedH U.vm) : stS n N f U := by
  obtain ⟨t, h1, h2⟩ := h
  exact ⟨t, by rw [hU]; exact va_Z.moved hW.alike h1, by rw [hU]; exact va_T.moved hW.alike h2⟩
