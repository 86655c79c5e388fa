/-! ===== the law: what both sides share, and what each side holds ===== -/
def lgA (x y : Int32) : Int64 := (x.toInt64 <<< ((nI 32).toInt64 &&& 63)) ||| (y.toInt64 &&& lN 4294967295)
theorem lg_self (x : Int64) : lg_cmp x x = 0 := by
  rcases cw_3 x x with ⟨_, h⟩ | ⟨h, _⟩ | ⟨_, h⟩
  · omega
  · exact h
  · omega
def rValue (va : Nat → Int32) (c b v : Int32) : Int32 := if vok c b v then va (26 * tn c + (tn b - 97)) else (-1 : Int32)
def nValue (va : Nat → Int32) (c b v : Int32) : Nat → Int32 := if vok c b v then upd va (26 * tn c + (tn b - 97)) v else va
def rWorth (va : Nat → Int32) (n c b a : Int32) : Int32 := if wok n c b a then wv va (tn n) (tn c) b a else (-1 : Int32)
def nWorth (tr : Int64) (n c b a : Int32) : Int64 := if wok n c b a then tr + lN (alt (tn n)) else tr
def rType (L : Nat) (v : Int64) (k : Int32) : Int32 := if okT v k then (if 40 < L + tn k then (-3 : Int32) else nI (L + tn k)) else (-1 : Int32)
def nTyB (bt : Nat → Int32) (L : Nat) (v : Int64) (k : Int32) : Nat → Int32 := if okT v k ∧ L + tn k ≤ 40 then apb bt L v (tn k) (tn k) else bt
def nTyL (L : Nat) (v : Int64) (k : Int32) : Nat := if okT v k ∧ L + tn k ≤ 40 then L + tn k else L
abbrev okVo (bt : Nat → Int32) (L nv : Nat) (f o : Int32) : Prop := vcok f o ∧ wordy bt L ∧ nv < 10
def rVoc (bt : Nat → Int32) (L nv : Nat) (f o : Int32) : Int32 := if vcok f o then (if wordy bt L then (if nv = 10 then (-3 : Int32) else nI nv) else (-2 : Int32)) else (-1 : Int32)
def vsel {α : Type} (bt : Nat → Int32) (L nv : Nat) (f o : Int32) (x y : α) : α := if okVo bt L nv f o then x else y
def rOrd (nx : Nat → Int32) (o t : Int32) : Int32 := if ook o t then nx (tn o) else (-1 : Int32)
def nOrd (nx : Nat → Int32) (o t : Int32) : Nat → Int32 := if ook o t then upd nx (tn o) t else nx
theorem vsel_y {α : Type} {bt : Nat → Int32} {L nv : Nat} {f o : Int32} {x y : α} (h : okVo bt L nv f o) : vsel bt L nv f o x y = x := if_pos h
theorem vsel_n {α : Type} {bt : Nat → Int32} {L nv : Nat} {f o : Int32} {x y : α} (h : ¬ okVo bt L nv f o) : vsel bt L nv f o x y = y := if_neg h
def okC (va : Nat → Int32) (L : Nat) (le fe so : Nat → Int32) (nv : Nat) : Prop := L ≤ 40 ∧ nv ≤ 10 ∧ okV le nv 1 8 ∧ okV fe nv 1 3 ∧ okV so nv 0 2 ∧ okV va 104 0 1000
theorem tn_self {x : Int32} (h : 0 ≤ x.toInt) : x = nI (tn x) := by
  have hb := fb_rng0 x
  unfold tn
  rw [cv_eq_ii, nI_toInt (by omega)]
  omega
theorem okC_value {va le fe so : Nat → Int32} {L nv : Nat} (h : okC va L le fe so nv) (c b v : Int32) : okC (nValue va c b v) L le fe so nv := by
  obtain ⟨h1, h2, h3, h4, h5, h6⟩ := h
  refine ⟨h1, h2, h3, h4, h5, ?_⟩
  unfold nValue
  by_cases q : vok c b v
  · rw [if_pos q]
    refine okV_upd h6 ?_
    have hv : isVal v := q.2.2
    have h0 : 0 ≤ v.toInt ∧ v.toInt ≤ 1000 := by omega
    exact ⟨tn_self h0.1, Nat.zero_le _, by unfold tn; omega⟩
  · rw [if_neg q]; exact h6
theorem okC_type {va le fe so : Nat → Int32} {L nv : Nat} (h : okC va L le fe so nv) (v : Int64) (k : Int32) : okC va (nTyL L v k) le fe so nv := by
  refine ⟨?_, h.2⟩
  unfold nTyL
  by_cases q : okT v k ∧ L + tn k ≤ 40
  · rw [if_pos q]; exact q.2
  · rw [if_neg q]; exact h.1
theorem okC_clear {va le fe so : Nat → Int32} {L nv : Nat} (h : okC va L le fe so nv) : okC va 0 le fe so nv := ⟨Nat.zero_le _, h.2⟩
theorem okC_voc {va le fe so bt : Nat → Int32} {L nv : Nat} (h : okC va L le fe so nv) (f o : Int32) : okC va (vsel bt L nv f o 0 L) (vsel bt L nv f o (upd le nv (nI L)) le) (vsel bt L nv f o (upd fe nv f) fe) (vsel bt L nv f o (upd so nv o) so) (vsel bt L nv f o (nv + 1) nv) := by
  by_cases q : okVo bt L nv f o
  · rw [vsel_y q, vsel_y q, vsel_y q, vsel_y q, vsel_y q]
    obtain ⟨h1, h2, h3, h4, h5, h6⟩ := h
    obtain ⟨⟨⟨q1, q2⟩, q3, q4⟩, ⟨⟨q5, q6⟩, _⟩, q7⟩ := q
    refine ⟨Nat.zero_le _, by omega, okV_push h3 ?_, okV_push h4 ?_, okV_push h5 ?_, h6⟩
    · rw [tn_nI (by omega)]; exact ⟨rfl, q5, q6⟩
    · exact ⟨tn_self (by omega), by unfold tn; omega, by unfold tn; omega⟩
    · exact ⟨tn_self q3, Nat.zero_le _, by unfold tn; omega⟩
  · rw [vsel_n q, vsel_n q, vsel_n q, vsel_n q, vsel_n q]; exact h
def stA (n : String) (N : Nat) (f : Nat → Value) (A : Nat → Prop) (U : State) : Prop := ∃ t : Nat, va_Z "VerseYears" n "[I" (.ref t) A U U.heap ∧ va_T .int t N f A U U.heap
theorem stA_of {n : String} {N : Nat} {f : Nat → Value} {A : Nat → Prop} {s U : State} {H : Heap} {locs : List Loc} (h : stA n N f A s) (hS : va_S A s.heap H locs) (hU : U.heap = H) (hW : s.WarmedH U.vm) : stS n N f U := by
  obtain ⟨t, h1, h2⟩ := h
  refine ⟨t, ?_, ?_⟩
  · rw [hU]; exact va_Z.moved hW.alike ((h1.kept hS.2.1).narrow (fun _ z => z.elim))
  · rw [hU]; exact va_T.moved hW.alike ((h2.kept hS.2.1).narrow (fun _ z => z.elim))
theorem wP_at {ws : va_W} {n : Nat} {ad : Nat → Nat} (hw : ws.map Prod.fst = (List.range n).map ad) {k : Nat} {q : Nat × va_E} (h : ws[k]? = some q) : k < n ∧ q.1 = ad k := by
  have h1 : (ws.map Prod.fst)[k]? = some q.1 := by rw [List.getElem?_map, h]; rfl
  rw [hw, List.getElem?_map] at h1
  by_cases hi : k < n
  · rw [List.getElem?_range hi] at h1
    exact ⟨hi, (Option.some.inj h1).symm⟩
  · rw [List.getElem?_eq_none (by simpa using hi)] at h1
    cases h1
theorem wP_kept {D : va_G} {cl : List vw_C} {ws : va_W} {n : Nat} {ad : Nat → Nat} {H H1 : Heap} (hw : ws.map Prod.fst = (List.range n).map ad) (h : va_P D cl ws H) (hq : ∀ i, i < n → H1[ad i]? = H[ad i]?) : va_P D cl ws H1 :=
  h.kept (fun k q hk => by obtain ⟨h1, h2⟩ := wP_at hw hk; rw [h2]; exact hq k h1)
theorem wP_lt {D : va_G} {cl : List vw_C} {ws : va_W} {n : Nat} {ad : Nat → Nat} {H : Heap} (hw : ws.map Prod.fst = (List.range n).map ad) (h : va_P D cl ws H) {i : Nat} (hi : i < n) : ad i < H.size := by
  have h1 : (ws.map Prod.fst)[i]? = some (ad i) := by rw [hw, List.getElem?_map, List.getElem?_range hi]; rfl
  rw [List.getElem?_map] at h1
  cases hq : ws[i]? with
  | none => rw [hq] at h1; cases h1
  | some q => rw [hq] at h1; rw [← Option.some.inj h1]; exact (h i q hq).lt
theorem aW_no {n : Nat} {ad : Nat → Nat} {sz x : Nat} (h : ∀ k, k < n → x ≠ ad k) (h2 : x < sz) : ¬ aW n ad sz x := by
  rintro (⟨k, hk, e⟩ | e)
  · exact h k hk e
  · omega
section BF
variable {p : Program} {l : Launch} {e : Env} {R : Room} {s : State} {m : MethodId} {args : Array Value} {below : List Frame} {meth : Method} {c : Code} {H : Heap} {locs : List Loc} {cells slots : Nat} {Q : State → Prop} {cc : ByteArray} {pc : Nat} {ls : Array Slot} {rest st0 : List Value} {a : Array Value}
theorem an_sld (hexec : p.tables.exec = Jvm.exec) (hb : c.code = cc) {A : Nat → Prop} {H0 : Heap} {b L : Nat} {xs : Nat → Int32} (hX : va_X b L xs s H0) (hbl : b < H0.size) (hbA : ¬ A b) (hS : va_S A H0 H locs) {i : Nat} (hin : i < L) (hL : L < 2 ^ 31) (hdg : decode cc pc = .ok (.iaload, 1))
    (kk : W p l e R s m args below meth c H locs cells slots Q (F0 m (pc + 1) ls (.int (xs i) :: rest))) : W p l e R s m args below meth c H locs cells slots Q (F0 m pc ls (.int (nI i) :: .ref b :: rest)) :=
  va_sld hexec hb hX hbl hbA hS (vp_in_nI hin hL) hdg (by rw [nI_clamp (Nat.lt_trans hin hL)]; exact kk)
theorem lx_i {S : Type} {post : Int32 → S → Prop} {D : va_G} {cl : List vw_C} {w : S → va_W} {n : Nat} {ad : Nat → Nat} (hr : va_Run p l e R s m args below meth c H locs cells slots 0 0 (F0 m pc ls st0) rest (va_Qi post (fun u t => va_P D cl (w u) t.heap) (aW n ad H.size) a) (aW n ad H.size)) (hS : va_S (fun q => s.heap.size ≤ q) s.heap H locs) (hin : ∀ i, i < n → s.heap.size ≤ ad i)
    (kk : ∀ (r : Int32) (u : S) (H1 : Heap) (locs1 : List Loc), post r u → va_P D cl (w u) H1 → (∀ q : Nat, q < H.size → ¬ aW n ad H.size q → H1[q]? = H[q]?) → va_S (fun q => s.heap.size ≤ q) s.heap H1 locs1 → W p l e R s m args below meth c H1 locs1 cells slots Q (F0 m (pc + 3) ls (.int r :: rest))) : W p l e R s m args below meth c H locs cells slots Q (F0 m pc ls st0) :=
  va_calli hr hS (fun q _ h => h.elim (fun ⟨k, hk, hq⟩ => hq ▸ hin k hk) (fun z => Nat.le_trans hS.1 z)) (fun q h => h.elim (fun ⟨k, hk, hq⟩ => hq ▸ hin k hk) (fun z => Nat.le_trans hS.1 z)) (fun r u _ H1 locs1 ht _ hp hB _ hk hS1 => kk r u H1 locs1 hp (by rw [← ht]; exact hB) hk hS1)
theorem lx_l {S : Type} {post : Int64 → S → Prop} {D : va_G} {cl : List vw_C} {w : S → va_W} {n : Nat} {ad : Nat → Nat} (hr : va_Run p l e R s m args below meth c H locs cells slots 0 0 (F0 m pc ls st0) rest (va_Ql post (fun u t => va_P D cl (w u) t.heap) (aW n ad H.size) a) (aW n ad H.size)) (hS : va_S (fun q => s.heap.size ≤ q) s.heap H locs) (hin : ∀ i, i < n → s.heap.size ≤ ad i)
    (kk : ∀ (r : Int64) (u : S) (H1 : Heap) (locs1 : List Loc), post r u → va_P D cl (w u) H1 → (∀ q : Nat, q < H.size → ¬ aW n ad H.size q → H1[q]? = H[q]?) → va_S (fun q => s.heap.size ≤ q) s.heap H1 locs1 → W p l e R s m args below meth c H1 locs1 cells slots Q (F0 m (pc + 3) ls (.long r :: rest))) : W p l e R s m args below meth c H locs cells slots Q (F0 m pc ls st0) :=
  va_calll hr hS (fun q _ h => h.elim (fun ⟨k, hk, hq⟩ => hq ▸ hin k hk) (fun z => Nat.le_trans hS.1 z)) (fun q h => h.elim (fun ⟨k, hk, hq⟩ => hq ▸ hin k hk) (fun z => Nat.le_trans hS.1 z)) (fun r u _ H1 locs1 ht _ hp hB _ hk hS1 => kk r u H1 locs1 hp (by rw [← ht]; exact hB) hk hS1)
end BF
