theorem iw_X6_yearsOf_X6 : ∀ w ∈ u_ws RX6 TX6 23, w ∈ wsX6_yearsOf := by decide +kernel
theorem fl_X6_yearsOf_25 : Cond.fieldLink RX6 25 (TX6 9).1 (TX6 9).2.1 (TX6 9).2.2.1 ∈ wsX6_yearsOf := by decide +kernel
theorem fl_X6_yearsOf_39 : Cond.fieldLink RX6 39 (TX6 13).1 (TX6 13).2.1 (TX6 13).2.2.1 ∈ wsX6_yearsOf := by decide +kernel
theorem fl_X6_yearsOf_54 : Cond.fieldLink RX6 54 (TX6 19).1 (TX6 19).2.1 (TX6 19).2.2.1 ∈ wsX6_yearsOf := by decide +kernel
theorem fl_X6_yearsOf_58 : Cond.fieldLink RX6 58 (TX6 20).1 (TX6 20).2.1 (TX6 20).2.2.1 ∈ wsX6_yearsOf := by decide +kernel
theorem fl_X6_yearsOf_124 : Cond.fieldLink RX6 124 (TX6 5).1 (TX6 5).2.1 (TX6 5).2.2.1 ∈ wsX6_yearsOf := by decide +kernel
theorem fl_X6_yearsOf_154 : Cond.fieldLink RX6 154 (TX6 16).1 (TX6 16).2.1 (TX6 16).2.2.1 ∈ wsX6_yearsOf := by decide +kernel
set_option maxHeartbeats 200000 in
set_option maxRecDepth 100000 in
theorem c_X6_yearsOf (l : Launch) {g : GW} {trace : Int64} {value : Nat → Int32} {draft : Nat → Int32} {L : Nat} {nv : Nat} {letter : Nat → Int32} {long1 : Nat → Int32} {feet : Nat → Int32} {sort : Nat → Int32} {order : Nat → Int32} {left : Nat → Int64} {opn : Nat → Int64} {own : Nat → Int32} {other : Nat → Int32} {pick : Nat → Int32} {pt : Nat} {frm : Nat → Int32} {size : Nat → Int32} {isYear : Nat → Int32} {isNext : Nat → Int32} {ways : Nat → Int64} {nextWays : Nat → Int64} {sz : Nat} (counting : Nat) (custom : Nat) (hc : counting < 3) (hk : custom < 4) (hpt : pt = pn draft L) (hrow : prow2 draft L frm size) (hnv : nv ≤ 10) (hL2 : L ≤ 40) (hle : okV long1 nv 1 8) (hso : okV sort nv 0 2) (hva : okV value 104 0 1000) (hd : dW 19 g.2.2) : Met l yX6_yearsOf wsX6_yearsOf ({ frames := 5, cells := 0, slots := 0, locals := 114 }) (va_Pc ([.ref (g.2.2 0), .int (nI (counting)), .int (nI (custom))]) (qW g (wM g trace value draft (nI (L)) (nI (nv)) letter long1 feet sort order left opn own other pick (nI (pt)) frm size isYear isNext ways nextWays) sz)) (va_Qv (fun (z : (Nat → Int32) × (Nat → Int32) × (Nat → Int32)) => pt = 0 ∨ yM z.2.1 (yr draft letter long1 sort order (owf value letter long1 counting custom) L nv pt)) (fun (z : (Nat → Int32) × (Nat → Int32) × (Nat → Int32)) (t : State) => va_P g.1 vwCl (wM g trace value draft (nI (L)) (nI (nv)) letter long1 feet sort order left opn (z.1) other pick (nI (pt)) frm size (z.2.1) (z.2.2) ways nextWays) t.heap) (aW 19 g.2.2 sz)) 0 0 (aW 19 g.2.2 sz) := by
  refine Met.ofW (cc := cX6_yearsOf) (maxL := 8) (ret := none) (by decide) rfl ?_
  intro p e s m args below meth c s₁ B hml hv
  obtain ⟨rfl, hsz9, hP, hK, hN⟩ := hv
  subst hsz9
  have hx := B.exec
  have hb := B.bytes
  have hr := B.returns
  have hts := atoms_spec (ws := wsX6_yearsOf) B.pre
  have hown : s.vm.findClass RX6 = some m.cls := findClass_of_methodNamed B.named
  have hlocks := B.notSynchronized
  have hS : va_S (aW 19 g.2.2 s.heap.size) s.heap s.heap [] := va_S.rf
  have hl := lv_entry ([.ref (g.2.2 0), .int (nI (counting)), .int (nI (custom))]) (n := 8) (Nat.le_of_ble_eq_true rfl)
  rw [lg_entry_eq]
  generalize (lg_sl ([.ref (g.2.2 0), .int (nI (counting)), .int (nI (custom))]) ++ List.replicate (8 - (lg_sl ([.ref (g.2.2 0), .int (nI (counting)), .int (nI (custom))])).length) Slot.unset).toArray = ls at hl ⊢
  have hl : lv_has ls 8 [(0, .ref (g.2.2 0)), (1, .int (nI (counting))), (2, .int (nI (custom)))] := hl
  have hp20 := pn_room draft L
  refine lv_aload_n hx hb dX6_yearsOf_0 rfl (lv_at hl 0 rfl) ?_
  refine lv_iload_n hx hb dX6_yearsOf_1 rfl (lv_at hl 1 rfl) ?_
  refine lv_iload_n hx hb dX6_yearsOf_2 rfl (lv_at hl 2 rfl) ?_
  refine lv_aload_n hx hb dX6_yearsOf_3 rfl (lv_at hl 0 rfl) ?_
  refine an_get (ci := 6) (v := .ref (g.2.2 10)) (C := RX6) (T := TX6) (N := 23) hx hb hts iw_X6_yearsOf_X6 hown hK hP 0 rfl rfl 13 (by decide) (hts _ fl_X6_yearsOf_39) rfl dX6_yearsOf_4 ?_
  refine wr_callv (w := (fun (z : (Nat → Int32)) => (wM g trace value draft (nI (L)) (nI (nv)) letter long1 feet sort order left opn z other pick (nI (pt)) frm size isYear isNext ways nextWays))) (va_runV (As := [.int (nI (counting)), .int (nI (custom)), .ref (g.2.2 10)]) (rest := []) ⟨hx, hb, hml, hown, hts⟩ (c_X6_owns_own l (g := g) (trace := trace) (value := value) (draft := draft) (typed := nI (L)) (nv := nv) (letter := letter) (long1 := long1) (feet := feet) (sort := sort) (order := order) (left := left) (opn := opn) (own := own) (other := other) (pick := pick) (parts := nI (pt)) (frm := frm) (size := size) (isYear := isYear) (isNext := isNext) (ways := ways) (nextWays := nextWays) (sz := _) (counting) (custom) hc hk hnv hle hd) (cwV 3 hts gX6_yearsOf_X6_owns rfl rfl rfl (by decide +kernel) ⟨Nat.le_of_ble_eq_true rfl, Nat.le_of_ble_eq_true rfl⟩) (pre_V qW_bl (va_recv hK hP (ci := 6) (q0 := 0) rfl rfl) (fun U hU hW => ⟨by rw [hU], pW_of hP hK hN hU hW⟩)) rfl rfl hl.1 rfl (lv_room (Nat.le_of_ble_eq_true rfl)) dX6_yearsOf_7 ⟨Nat.zero_le _, Nat.zero_le _⟩) hS (fun own7 H locs hp7 hP hS => ?_)
  have hP : va_P g.1 vwCl (wM g trace value draft (nI (L)) (nI (nv)) letter long1 feet sort order left opn own7 other pick (nI (pt)) frm size isYear isNext ways nextWays) H := hP
  have hq1 : ∀ v, v < nv → own7 v = nI ((owf value letter long1 counting custom) v) ∧ (owf value letter long1 counting custom) v ≤ 8000 := fun v hv => ⟨(hp7 v hv).trans (vsm_ok hva hk hle hv).1, (vsm_ok (tx := letter) (n := counting) hva hk hle hv).2⟩
  refine lv_iconst (v := (nI (0))) hx hb dX6_yearsOf_10 (by decide) ?_
  refine lv_istore_n (lv' := [(3, .int (nI (0))), (0, .ref (g.2.2 0)), (1, .int (nI (counting))), (2, .int (nI (custom)))]) hx hb dX6_yearsOf_11 rfl hl (by decide) rfl (fun ls hl => ?_)
  have lp_12 : ∀ (n : Nat) (i : Nat) (f1 : Nat → Int32) (f2 : Nat → Int32), (i ≤ pt) → (i = 0 ∨ yM f1 (yr draft letter long1 sort order (owf value letter long1 counting custom) L nv i)) → pt - i < n → ∀ (H : Heap) (locs : List Loc), va_P g.1 vwCl (wM g trace value draft (nI (L)) (nI (nv)) letter long1 feet sort order left opn own7 other pick (nI (pt)) frm size f1 f2 ways nextWays) H → va_S (aW 19 g.2.2 s.heap.size) s.heap H locs → ∀ (ls : Array Slot), lv_has ls 8 [(0, .ref (g.2.2 0)), (1, .int (nI (counting))), (2, .int (nI (custom))), (3, .int (nI (i)))] → W p l e (headSpec wsX6_yearsOf ({ frames := 5, cells := 0, slots := 0, locals := 114 })).room s m (([.ref (g.2.2 0), .int (nI (counting)), .int (nI (custom))] : List Value).toArray) below meth c H locs 0 0 (MQ below (va_Qv (fun (z : (Nat → Int32) × (Nat → Int32) × (Nat → Int32)) => pt = 0 ∨ yM z.2.1 (yr draft letter long1 sort order (owf value letter long1 counting custom) L nv pt)) (fun (z : (Nat → Int32) × (Nat → Int32) × (Nat → Int32)) (t : State) => va_P g.1 vwCl (wM g trace value draft (nI (L)) (nI (nv)) letter long1 feet sort order left opn (z.1) other pick (nI (pt)) frm size (z.2.1) (z.2.2) ways nextWays) t.heap) (aW 19 g.2.2 s.heap.size)) (([.ref (g.2.2 0), .int (nI (counting)), .int (nI (custom))] : List Value).toArray) s 0 0 (aW 19 g.2.2 s.heap.size)) (F0 m 12 ls []) := by
    intro n
    induction n with
    | zero => intro i f1 f2 hi hf1 hm; exact absurd hm (Nat.not_lt_zero _)
    | succ n ih_12 =>
      intro i f1 f2 hi hf1 hm_12 H locs hP hS ls hl
      refine lv_iload_n hx hb dX6_yearsOf_12 rfl (lv_at hl 3 rfl) ?_
      refine lv_aload_n hx hb dX6_yearsOf_13 rfl (lv_at hl 0 rfl) ?_
      refine an_get (ci := 6) (v := .int (nI (pt))) (C := RX6) (T := TX6) (N := 23) hx hb hts iw_X6_yearsOf_X6 hown hK hP 0 rfl rfl 16 (by decide) (hts _ fl_X6_yearsOf_154) rfl dX6_yearsOf_14 ?_
      refine lv_icmp_ge (tgt := 255) hx hb dX6_yearsOf_17 (by decide) (fun c_17 => ?_) (fun c_17 => ?_)
      · have c_17 := (cv_le_nn (by omega) (by omega)).mp c_17
        exact wr_vret (own7, f1, f2) hx hb hr hlocks (by rw [← show i = pt by omega]; exact hf1) (fun t ht => show va_P g.1 vwCl (wM g trace value draft (nI (L)) (nI (nv)) letter long1 feet sort order left opn own7 other pick (nI (pt)) frm size f1 f2 ways nextWays) t.heap by rw [ht]; exact hP) hS dX6_yearsOf_255
      · have c_17 := (not_congr (cv_le_nn (by omega) (by omega))).mp c_17
        refine lv_iconst (v := (nI (0))) hx hb dX6_yearsOf_20 (by decide) ?_
        refine lv_istore (lv' := [(4, .int (nI (0))), (0, .ref (g.2.2 0)), (1, .int (nI (counting))), (2, .int (nI (custom))), (3, .int (nI (i)))]) hx hb dX6_yearsOf_21 hl (by decide) rfl (fun ls hl => ?_)
        have lp_23 : ∀ (n : Nat) (k : Nat) (g3 : Nat → Int32), (k ≤ 9003) → (∀ j, j < k → g3 j = nI 0) → 9003 - k < n → ∀ (H : Heap) (locs : List Loc), va_P g.1 vwCl (wM g trace value draft (nI (L)) (nI (nv)) letter long1 feet sort order left opn own7 other pick (nI (pt)) frm size f1 g3 ways nextWays) H → va_S (aW 19 g.2.2 s.heap.size) s.heap H locs → ∀ (ls : Array Slot), lv_has ls 8 [(0, .ref (g.2.2 0)), (1, .int (nI (counting))), (2, .int (nI (custom))), (3, .int (nI (i))), (4, .int (nI (k)))] → W p l e (headSpec wsX6_yearsOf ({ frames := 5, cells := 0, slots := 0, locals := 114 })).room s m (([.ref (g.2.2 0), .int (nI (counting)), .int (nI (custom))] : List Value).toArray) below meth c H locs 0 0 (MQ below (va_Qv (fun (z : (Nat → Int32) × (Nat → Int32) × (Nat → Int32)) => pt = 0 ∨ yM z.2.1 (yr draft letter long1 sort order (owf value letter long1 counting custom) L nv pt)) (fun (z : (Nat → Int32) × (Nat → Int32) × (Nat → Int32)) (t : State) => va_P g.1 vwCl (wM g trace value draft (nI (L)) (nI (nv)) letter long1 feet sort order left opn (z.1) other pick (nI (pt)) frm size (z.2.1) (z.2.2) ways nextWays) t.heap) (aW 19 g.2.2 s.heap.size)) (([.ref (g.2.2 0), .int (nI (counting)), .int (nI (custom))] : List Value).toArray) s 0 0 (aW 19 g.2.2 s.heap.size)) (F0 m 23 ls []) := by
          intro n
          induction n with
          | zero => intro k g3 hk3 hg3 hm; exact absurd hm (Nat.not_lt_zero _)
          | succ n ih_23 =>
            intro k g3 hk3 hg3 hm_23 H locs hP hS ls hl
            refine lv_iload hx hb dX6_yearsOf_23 (lv_at hl 4 rfl) ?_
            refine lv_sipush (v := (nI (9003))) hx hb dX6_yearsOf_25 (by decide) ?_
            refine lv_icmp_ge (tgt := 45) hx hb dX6_yearsOf_28 (by decide) (fun c_28 => ?_) (fun c_28 => ?_)
            · have c_28 := (cv_le_nn (by omega) (by omega)).mp c_28
              refine lv_iconst (v := (nI (0))) hx hb dX6_yearsOf_45 (by decide) ?_
              refine lv_istore (lv' := [(4, .int (nI (0))), (0, .ref (g.2.2 0)), (1, .int (nI (counting))), (2, .int (nI (custom))), (3, .int (nI (i)))]) hx hb dX6_yearsOf_46 hl (by decide) rfl (fun ls hl => ?_)
              have lp_48 : ∀ (n : Nat) (v : Nat) (g4 : Nat → Int32), (v ≤ nv) → (yM g4 (yp1 draft letter long1 sort order (owf value letter long1 counting custom) L nv i v)) → nv - v < n → ∀ (H : Heap) (locs : List Loc), va_P g.1 vwCl (wM g trace value draft (nI (L)) (nI (nv)) letter long1 feet sort order left opn own7 other pick (nI (pt)) frm size f1 g4 ways nextWays) H → va_S (aW 19 g.2.2 s.heap.size) s.heap H locs → ∀ (ls : Array Slot), lv_has ls 8 [(0, .ref (g.2.2 0)), (1, .int (nI (counting))), (2, .int (nI (custom))), (3, .int (nI (i))), (4, .int (nI (v)))] → W p l e (headSpec wsX6_yearsOf ({ frames := 5, cells := 0, slots := 0, locals := 114 })).room s m (([.ref (g.2.2 0), .int (nI (counting)), .int (nI (custom))] : List Value).toArray) below meth c H locs 0 0 (MQ below (va_Qv (fun (z : (Nat → Int32) × (Nat → Int32) × (Nat → Int32)) => pt = 0 ∨ yM z.2.1 (yr draft letter long1 sort order (owf value letter long1 counting custom) L nv pt)) (fun (z : (Nat → Int32) × (Nat → Int32) × (Nat → Int32)) (t : State) => va_P g.1 vwCl (wM g trace value draft (nI (L)) (nI (nv)) letter long1 feet sort order left opn (z.1) other pick (nI (pt)) frm size (z.2.1) (z.2.2) ways nextWays) t.heap) (aW 19 g.2.2 s.heap.size)) (([.ref (g.2.2 0), .int (nI (counting)), .int (nI (custom))] : List Value).toArray) s 0 0 (aW 19 g.2.2 s.heap.size)) (F0 m 48 ls []) := by
                intro n
                induction n with
                | zero => intro v g4 hv hg4 hm; exact absurd hm (Nat.not_lt_zero _)
                | succ n ih_48 =>
                  intro v g4 hv hg4 hm_48 H locs hP hS ls hl
                  refine lv_iload hx hb dX6_yearsOf_48 (lv_at hl 4 rfl) ?_
                  refine lv_aload_n hx hb dX6_yearsOf_50 rfl (lv_at hl 0 rfl) ?_
                  refine an_get (ci := 6) (v := .int (nI (nv))) (C := RX6) (T := TX6) (N := 23) hx hb hts iw_X6_yearsOf_X6 hown hK hP 0 rfl rfl 5 (by decide) (hts _ fl_X6_yearsOf_124) rfl dX6_yearsOf_51 ?_
                  refine lv_icmp_ge (tgt := 218) hx hb dX6_yearsOf_54 (by decide) (fun c_54 => ?_) (fun c_54 => ?_)
                  · have c_54 := (cv_le_nn (by omega) (by omega)).mp c_54
                    refine lv_iconst (v := (nI (0))) hx hb dX6_yearsOf_218 (by decide) ?_
                    refine lv_istore (lv' := [(4, .int (nI (0))), (0, .ref (g.2.2 0)), (1, .int (nI (counting))), (2, .int (nI (custom))), (3, .int (nI (i)))]) hx hb dX6_yearsOf_219 hl (by decide) rfl (fun ls hl => ?_)
                    have lp_221 : ∀ (n : Nat) (k7 : Nat) (g7 : Nat → Int32), (k7 ≤ 9003) → (∀ j, j < k7 → g7 j = g4 j) → 9003 - k7 < n → ∀ (H : Heap) (locs : List Loc), va_P g.1 vwCl (wM g trace value draft (nI (L)) (nI (nv)) letter long1 feet sort order left opn own7 other pick (nI (pt)) frm size g7 g4 ways nextWays) H → va_S (aW 19 g.2.2 s.heap.size) s.heap H locs → ∀ (ls : Array Slot), lv_has ls 8 [(0, .ref (g.2.2 0)), (1, .int (nI (counting))), (2, .int (nI (custom))), (3, .int (nI (i))), (4, .int (nI (k7)))] → W p l e (headSpec wsX6_yearsOf ({ frames := 5, cells := 0, slots := 0, locals := 114 })).room s m (([.ref (g.2.2 0), .int (nI (counting)), .int (nI (custom))] : List Value).toArray) below meth c H locs 0 0 (MQ below (va_Qv (fun (z : (Nat → Int32) × (Nat → Int32) × (Nat → Int32)) => pt = 0 ∨ yM z.2.1 (yr draft letter long1 sort order (owf value letter long1 counting custom) L nv pt)) (fun (z : (Nat → Int32) × (Nat → Int32) × (Nat → Int32)) (t : State) => va_P g.1 vwCl (wM g trace value draft (nI (L)) (nI (nv)) letter long1 feet sort order left opn (z.1) other pick (nI (pt)) frm size (z.2.1) (z.2.2) ways nextWays) t.heap) (aW 19 g.2.2 s.heap.size)) (([.ref (g.2.2 0), .int (nI (counting)), .int (nI (custom))] : List Value).toArray) s 0 0 (aW 19 g.2.2 s.heap.size)) (F0 m 221 ls []) := by
                      intro n
                      induction n with
                      | zero => intro k7 g7 hk7 hg7 hm; exact absurd hm (Nat.not_lt_zero _)
                      | succ n ih_221 =>
                        intro k7 g7 hk7 hg7 hm_221 H locs hP hS ls hl
                        refine lv_iload hx hb dX6_yearsOf_221 (lv_at hl 4 rfl) ?_
                        refine lv_sipush (v := (nI (9003))) hx hb dX6_yearsOf_223 (by decide) ?_
                        refine lv_icmp_ge (tgt := 249) hx hb dX6_yearsOf_226 (by decide) (fun c_226 => ?_) (fun c_226 => ?_)
                        · have c_226 := (cv_le_nn (by omega) (by omega)).mp c_226
                          refine lv_iinc (v := (nI (i + 1))) (lv' := [(3, .int (nI (i + 1))), (0, .ref (g.2.2 0)), (1, .int (nI (counting))), (2, .int (nI (custom))), (4, .int (nI (k7)))]) hx hb dX6_yearsOf_249 hl (k := 3) rfl (nI_add _ 1) (by decide) rfl (fun ls hl => ?_)
                          refine lv_goto (tgt := 12) hx hb dX6_yearsOf_252 (by decide) ?_
                          exact ih_12 (i + 1) g7 g4 (by omega) (Or.inr (fun s y hs hy => by rw [hg7 _ (by omega)]; have e9 : v = nv := (by omega); rw [e9] at hg4; exact hg4 s y hs hy)) (by omega) _ _ hP hS ls (lv_sub hl [1, 2, 3, 0] rfl)
                        · have c_226 := (not_congr (cv_le_nn (by omega) (by omega))).mp c_226
                          refine lv_aload_n hx hb dX6_yearsOf_229 rfl (lv_at hl 0 rfl) ?_
                          refine an_get (ci := 6) (v := .ref (g.2.2 15)) (C := RX6) (T := TX6) (N := 23) hx hb hts iw_X6_yearsOf_X6 hown hK hP 0 rfl rfl 19 (by decide) (hts _ fl_X6_yearsOf_54) rfl dX6_yearsOf_230 ?_
                          refine lv_iload hx hb dX6_yearsOf_233 (lv_at hl 4 rfl) ?_
                          refine lv_aload_n hx hb dX6_yearsOf_235 rfl (lv_at hl 0 rfl) ?_
                          refine an_get (ci := 6) (v := .ref (g.2.2 16)) (C := RX6) (T := TX6) (N := 23) hx hb hts iw_X6_yearsOf_X6 hown hK hP 0 rfl rfl 20 (by decide) (hts _ fl_X6_yearsOf_58) rfl dX6_yearsOf_236 ?_
                          refine lv_iload hx hb dX6_yearsOf_239 (lv_at hl 4 rfl) ?_
                          refine an_zald (f := g4) hx hb hK hP 16 2 rfl rfl (by decide) (by omega) dX6_yearsOf_241 ?_
                          refine an_zast (f := g7) (ws' := (wM g trace value draft (nI (L)) (nI (nv)) letter long1 feet sort order left opn own7 other pick (nI (pt)) frm size (upd (g7) (k7) (g4 (k7))) g4 ways nextWays)) hx hb hK hP (wM_D hd) hS 15 2 rfl rfl (yM_nar hg4 (by omega)) (by decide) (by omega) rfl dX6_yearsOf_242 (fun H locs hP hS => ?_)
                          refine lv_iinc (v := (nI (k7 + 1))) (lv' := [(4, .int (nI (k7 + 1))), (0, .ref (g.2.2 0)), (1, .int (nI (counting))), (2, .int (nI (custom))), (3, .int (nI (i)))]) hx hb dX6_yearsOf_243 hl (k := 4) rfl (nI_add _ 1) (by decide) rfl (fun ls hl => ?_)
                          refine lv_goto (tgt := 221) hx hb dX6_yearsOf_246 (by decide) ?_
                          exact ih_221 (k7 + 1) (upd g7 k7 (g4 k7)) (by omega) (fillI_s hg7) (by omega) _ _ hP hS ls (lv_sub hl [1, 2, 3, 4, 0] rfl)
                    exact lp_221 (9003 - (0) + 1) 0 f1 (Nat.zero_le _) (fun j h => absurd h (Nat.not_lt_zero j)) (Nat.lt_succ_self _) _ _ hP hS ls (lv_sub hl [1, 2, 3, 4, 0] rfl)
                  · have c_54 := (not_congr (cv_le_nn (by omega) (by omega))).mp c_54
                    have hs9 := hso v (by omega)
                    have hq9 := hq1 v (by omega)
                    refine lv_aload_n hx hb dX6_yearsOf_57 rfl (lv_at hl 0 rfl) ?_
                    refine lv_iload hx hb dX6_yearsOf_58 (lv_at hl 4 rfl) ?_
                    refine lv_iload_n hx hb dX6_yearsOf_60 rfl (lv_at hl 3 rfl) ?_
                    refine ro_call (va_runV (As := [.int (nI (v)), .int (nI (i))]) (rest := []) ⟨hx, hb, hml, hown, hts⟩ (c_X6_isFit l (g := g) (trace := trace) (value := value) (draft := draft) (typed := nI (L)) (vocables := nI (nv)) (letter := letter) (long1 := long1) (feet := feet) (sort := sort) (order := order) (left := left) (opn := opn) (own := own7) (other := other) (pick := pick) (parts := nI (pt)) (frm := frm) (size := size) (isYear := f1) (isNext := g4) (ways := ways) (nextWays := nextWays) (v) (i) L nv hnv (by omega) hL2 (by omega) hrow hle) (cwV 2 hts gX6_yearsOf_X6_isFit rfl rfl rfl (by decide +kernel) ⟨Nat.le_of_ble_eq_true rfl, Nat.le_of_ble_eq_true rfl⟩) (pre_V pW_bl (va_recv hK hP (ci := 6) (q0 := 0) rfl rfl) (fun U hU hW => pW_of hP hK hN hU hW)) rfl rfl hl.1 rfl (lv_room (Nat.le_of_ble_eq_true rfl)) dX6_yearsOf_61 ⟨Nat.zero_le _, Nat.zero_le _⟩) ?_
                    refine lv_if_eq (tgt := 212) hx hb dX6_yearsOf_64 (by decide) (fun c_64 => ?_) (fun c_64 => ?_)
                    · have c_64 := if_n c_64
                      refine lv_iinc (v := (nI (v + 1))) (lv' := [(4, .int (nI (v + 1))), (0, .ref (g.2.2 0)), (1, .int (nI (counting))), (2, .int (nI (custom))), (3, .int (nI (i)))]) hx hb dX6_yearsOf_212 hl (k := 4) rfl (nI_add _ 1) (by decide) rfl (fun ls hl => ?_)
                      refine lv_goto (tgt := 48) hx hb dX6_yearsOf_215 (by decide) ?_
                      exact ih_48 (v + 1) g4 (by omega) (yp1_n hg4 c_64) (by omega) _ _ hP hS ls (lv_sub hl [1, 2, 3, 4, 0] rfl)
                    · have c_64 := if_p c_64
                      refine lv_iconst (v := (nI (0))) hx hb dX6_yearsOf_67 (by decide) ?_
                      refine lv_istore (lv' := [(5, .int (nI (0))), (0, .ref (g.2.2 0)), (1, .int (nI (counting))), (2, .int (nI (custom))), (3, .int (nI (i))), (4, .int (nI (v)))]) hx hb dX6_yearsOf_68 hl (by decide) rfl (fun ls hl => ?_)
                      have lp_70 : ∀ (n : Nat) (s2 : Nat) (g5 : Nat → Int32), (s2 ≤ 4) → (yM g5 (yp2 draft letter long1 sort order (owf value letter long1 counting custom) L nv i v s2)) → 4 - s2 < n → ∀ (H : Heap) (locs : List Loc), va_P g.1 vwCl (wM g trace value draft (nI (L)) (nI (nv)) letter long1 feet sort order left opn own7 other pick (nI (pt)) frm size f1 g5 ways nextWays) H → va_S (aW 19 g.2.2 s.heap.size) s.heap H locs → ∀ (ls : Array Slot), lv_has ls 8 [(0, .ref (g.2.2 0)), (1, .int (nI (counting))), (2, .int (nI (custom))), (3, .int (nI (i))), (4, .int (nI (v))), (5, .int (nI (s2)))] → W p l e (headSpec wsX6_yearsOf ({ frames := 5, cells := 0, slots := 0, locals := 114 })).room s m (([.ref (g.2.2 0), .int (nI (counting)), .int (nI (custom))] : List Value).toArray) below meth c H locs 0 0 (MQ below (va_Qv (fun (z : (Nat → Int32) × (Nat → Int32) × (Nat → Int32)) => pt = 0 ∨ yM z.2.1 (yr draft letter long1 sort order (owf value letter long1 counting custom) L nv pt)) (fun (z : (Nat → Int32) × (Nat → Int32) × (Nat → Int32)) (t : State) => va_P g.1 vwCl (wM g trace value draft (nI (L)) (nI (nv)) letter long1 feet sort order left opn (z.1) other pick (nI (pt)) frm size (z.2.1) (z.2.2) ways nextWays) t.heap) (aW 19 g.2.2 s.heap.size)) (([.ref (g.2.2 0), .int (nI (counting)), .int (nI (custom))] : List Value).toArray) s 0 0 (aW 19 g.2.2 s.heap.size)) (F0 m 70 ls []) := by
                        intro n
                        induction n with
                        | zero => intro s2 g5 hs2 hg5 hm; exact absurd hm (Nat.not_lt_zero _)
                        | succ n ih_70 =>
                          intro s2 g5 hs2 hg5 hm_70 H locs hP hS ls hl
                          refine lv_iload hx hb dX6_yearsOf_70 (lv_at hl 5 rfl) ?_
                          refine lv_iconst (v := (nI (4))) hx hb dX6_yearsOf_72 (by decide) ?_
                          refine lv_icmp_ge (tgt := 212) hx hb dX6_yearsOf_73 (by decide) (fun c_73 => ?_) (fun c_73 => ?_)
                          · have c_73 := (cv_le_nn (by omega) (by omega)).mp c_73
                            refine lv_iinc (v := (nI (v + 1))) (lv' := [(4, .int (nI (v + 1))), (0, .ref (g.2.2 0)), (1, .int (nI (counting))), (2, .int (nI (custom))), (3, .int (nI (i))), (5, .int (nI (s2)))]) hx hb dX6_yearsOf_212 hl (k := 4) rfl (nI_add _ 1) (by decide) rfl (fun ls hl => ?_)
                            refine lv_goto (tgt := 48) hx hb dX6_yearsOf_215 (by decide) ?_
                            exact ih_48 (v + 1) g5 (by omega) (yp2_4 (by rw [show 4 = s2 by omega]; exact hg5) c_64) (by omega) _ _ hP hS ls (lv_sub hl [1, 2, 3, 4, 0] rfl)
                          · have c_73 := (not_congr (cv_le_nn (by omega) (by omega))).mp c_73
                            refine lv_iload_n hx hb dX6_yearsOf_76 rfl (lv_at hl 3 rfl) ?_
                            refine lv_if_ne (tgt := 84) hx hb dX6_yearsOf_77 (by decide) (fun c_77 => ?_) (fun c_77 => ?_)
                            · have c_77 := (not_congr (cz_eq_n (by omega))).mp c_77
                              refine lv_iconst (v := (nI (0))) hx hb dX6_yearsOf_84 (by decide) ?_
                              refine lv_istore (lv' := [(6, .int (nI (0))), (0, .ref (g.2.2 0)), (1, .int (nI (counting))), (2, .int (nI (custom))), (3, .int (nI (i))), (4, .int (nI (v))), (5, .int (nI (s2)))]) hx hb dX6_yearsOf_85 hl (by decide) rfl (fun ls hl => ?_)
                              refine lv_aload_n hx hb dX6_yearsOf_87 rfl (lv_at hl 1 rfl) ?_
                              refine lv_iload hx hb dX6_yearsOf_88 (lv_at hl 6 rfl) ?_
                              refine lv_iload hx hb dX6_yearsOf_90 (lv_at hl 5 rfl) ?_
                              refine ro_call (va_runV (As := [.int (nI (s2)), .int (nI (v))]) (rest := []) ⟨hx, hb, hml, hown, hts⟩ (c_X6_isAfter l (g := g) (trace := trace) (value := value) (draft := draft) (typed := nI (L)) (vocables := nI (nv)) (letter := letter) (long1 := long1) (feet := feet) (sort := sort) (order := order) (left := left) (opn := opn) (own := own7) (other := other) (pick := pick) (parts := nI (pt)) (frm := frm) (size := size) (isYear := f1) (isNext := g5) (ways := ways) (nextWays := nextWays) (s2) (v) (by omega) (by omega)) (cwV 2 hts gX6_yearsOf_X6_isAfter rfl rfl rfl (by decide +kernel) ⟨Nat.le_of_ble_eq_true rfl, Nat.le_of_ble_eq_true rfl⟩) (pre_V pW_bl (va_recv hK hP (ci := 6) (q0 := 0) rfl rfl) (fun U hU hW => pW_of hP hK hN hU hW)) rfl rfl hl.1 rfl (lv_room (Nat.le_of_ble_eq_true rfl)) dX6_yearsOf_92 ⟨Nat.zero_le _, Nat.zero_le _⟩) ?_
                              refine lv_if_eq (tgt := 206) hx hb dX6_yearsOf_95 (by decide) (fun c_95 => ?_) (fun c_95 => ?_)
                              · have c_95 := if_n c_95
                                refine lv_iinc (v := (nI (s2 + 1))) (lv' := [(5, .int (nI (s2 + 1))), (6, .int (nI (0))), (0, .ref (g.2.2 0)), (1, .int (nI (counting))), (2, .int (nI (custom))), (3, .int (nI (i))), (4, .int (nI (v)))]) hx hb dX6_yearsOf_206 hl (k := 6) rfl (nI_add _ 1) (by decide) rfl (fun ls hl => ?_)
                                refine lv_goto (tgt := 70) hx hb dX6_yearsOf_209 (by decide) ?_
                                exact ih_70 (s2 + 1) g5 (by omega) (yp2_n hg5 (fun y z => c_95 z.1)) (by omega) _ _ hP hS ls (lv_sub hl [2, 3, 4, 5, 6, 0] rfl)
                              · have c_95 := if_p c_95
                                refine lv_iload hx hb dX6_yearsOf_98 (lv_at hl 6 rfl) ?_
                                refine lv_iconst (v := (nI (3))) hx hb dX6_yearsOf_100 (by decide) ?_
                                refine lv_icmp_ne (tgt := 108) hx hb dX6_yearsOf_101 (by decide) (fun c_101 => ?_) (fun c_101 => ?_)
                                · have c_101 := (not_congr (cv_eq_nn (by omega) (by omega))).mp c_101
                                  refine lv_iconst (v := (nI (0))) hx hb dX6_yearsOf_108 (by decide) ?_
                                  refine lv_iload hx hb dX6_yearsOf_109 (lv_at hl 0 rfl) ?_
                                  refine lv_icmp_ne (tgt := 206) hx hb dX6_yearsOf_111 (by decide) (fun c_111 => ?_) (fun c_111 => ?_)
                                  · have c_111 := (not_congr (cv_eq_nn (by omega) (by omega))).mp c_111
                                    exact absurd c_111 (by decide)
                                  · have c_111 := (cv_eq_nn (by omega) (by omega)).mp c_111
                                    refine lv_aload_n hx hb dX6_yearsOf_114 rfl (lv_at hl 1 rfl) ?_
                                    refine an_get (ci := 6) (v := .ref (g.2.2 10)) (C := RX6) (T := TX6) (N := 23) hx hb hts iw_X6_yearsOf_X6 hown hK hP 0 rfl rfl 13 (by decide) (hts _ fl_X6_yearsOf_39) rfl dX6_yearsOf_115 ?_
                                    refine lv_iload hx hb dX6_yearsOf_118 (lv_at hl 5 rfl) ?_
                                    refine an_iald (f := own7) hx hb hK hP 10 0 rfl rfl (by decide) (by omega) dX6_yearsOf_120 ?_
                                    refine ln_toi (y := (nI ((owf value letter long1 counting custom) v))) (hq9.1) ?_
                                    refine lv_istore (lv' := [(7, .int (nI ((owf value letter long1 counting custom) v))), (6, .int (nI (0))), (0, .ref (g.2.2 0)), (1, .int (nI (counting))), (2, .int (nI (custom))), (3, .int (nI (i))), (4, .int (nI (v))), (5, .int (nI (s2)))]) hx hb dX6_yearsOf_121 hl (by decide) rfl (fun ls hl => ?_)
                                    have lp_123 : ∀ (n : Nat) (yy : Nat) (g6 : Nat → Int32), ((owf value letter long1 counting custom) v ≤ yy) → (yy ≤ 3001 ∨ yy = (owf value letter long1 counting custom) v) → (yM g6 (yp3 draft letter long1 sort order (owf value letter long1 counting custom) L nv i v s2 yy)) → 3001 - yy < n → ∀ (H : Heap) (locs : List Loc), va_P g.1 vwCl (wM g trace value draft (nI (L)) (nI (nv)) letter long1 feet sort order left opn own7 other pick (nI (pt)) frm size f1 g6 ways nextWays) H → va_S (aW 19 g.2.2 s.heap.size) s.heap H locs → ∀ (ls : Array Slot), lv_has ls 8 [(0, .ref (g.2.2 0)), (1, .int (nI (counting))), (2, .int (nI (custom))), (3, .int (nI (i))), (4, .int (nI (v))), (5, .int (nI (s2))), (6, .int (nI (0))), (7, .int (nI (yy)))] → W p l e (headSpec wsX6_yearsOf ({ frames := 5, cells := 0, slots := 0, locals := 114 })).room s m (([.ref (g.2.2 0), .int (nI (counting)), .int (nI (custom))] : List Value).toArray) below meth c H locs 0 0 (MQ below (va_Qv (fun (z : (Nat → Int32) × (Nat → Int32) × (Nat → Int32)) => pt = 0 ∨ yM z.2.1 (yr draft letter long1 sort order (owf value letter long1 counting custom) L nv pt)) (fun (z : (Nat → Int32) × (Nat → Int32) × (Nat → Int32)) (t : State) => va_P g.1 vwCl (wM g trace value draft (nI (L)) (nI (nv)) letter long1 feet sort order left opn (z.1) other pick (nI (pt)) frm size (z.2.1) (z.2.2) ways nextWays) t.heap) (aW 19 g.2.2 s.heap.size)) (([.ref (g.2.2 0), .int (nI (counting)), .int (nI (custom))] : List Value).toArray) s 0 0 (aW 19 g.2.2 s.heap.size)) (F0 m 123 ls []) := by
                                      intro n
                                      induction n with
                                      | zero => intro yy g6 hyy1 hyy2 hg6 hm; exact absurd hm (Nat.not_lt_zero _)
                                      | succ n ih_123 =>
                                        intro yy g6 hyy1 hyy2 hg6 hm_123 H locs hP hS ls hl
                                        refine lv_iload hx hb dX6_yearsOf_123 (lv_at hl 7 rfl) ?_
                                        refine lv_sipush (v := (nI (3000))) hx hb dX6_yearsOf_125 (by decide) ?_
                                        refine lv_icmp_gt (tgt := 206) hx hb dX6_yearsOf_128 (by decide) (fun c_128 => ?_) (fun c_128 => ?_)
                                        · have c_128 := (cv_lt_nn (by omega) (by omega)).mp c_128
                                          refine lv_iinc (v := (nI (s2 + 1))) (lv' := [(5, .int (nI (s2 + 1))), (0, .ref (g.2.2 0)), (1, .int (nI (counting))), (2, .int (nI (custom))), (3, .int (nI (i))), (4, .int (nI (v))), (6, .int (nI (0))), (7, .int (nI (yy)))]) hx hb dX6_yearsOf_206 hl (k := 5) rfl (nI_add _ 1) (by decide) rfl (fun ls hl => ?_)
                                          refine lv_goto (tgt := 70) hx hb dX6_yearsOf_209 (by decide) ?_
                                          exact ih_70 (s2 + 1) g6 (by omega) (yp3_e hg6 c_95 (by omega)) (by omega) _ _ hP hS ls (lv_sub hl [1, 2, 3, 4, 5, 0] rfl)
                                        · have c_128 := (not_congr (cv_lt_nn (by omega) (by omega))).mp c_128
                                          refine lv_aload_n hx hb dX6_yearsOf_131 rfl (lv_at hl 0 rfl) ?_
                                          refine an_get (ci := 6) (v := .ref (g.2.2 16)) (C := RX6) (T := TX6) (N := 23) hx hb hts iw_X6_yearsOf_X6 hown hK hP 0 rfl rfl 20 (by decide) (hts _ fl_X6_yearsOf_58) rfl dX6_yearsOf_132 ?_
                                          refine lv_sipush (v := (nI (3001))) hx hb dX6_yearsOf_135 (by decide) ?_
                                          refine lv_aload_n hx hb dX6_yearsOf_138 rfl (lv_at hl 0 rfl) ?_
                                          refine an_get (ci := 6) (v := .ref (g.2.2 6)) (C := RX6) (T := TX6) (N := 23) hx hb hts iw_X6_yearsOf_X6 hown hK hP 0 rfl rfl 9 (by decide) (hts _ fl_X6_yearsOf_25) rfl dX6_yearsOf_139 ?_
                                          refine lv_iload hx hb dX6_yearsOf_142 (lv_at hl 4 rfl) ?_
                                          refine an_iald (f := sort) hx hb hK hP 6 0 rfl rfl (by decide) (by omega) dX6_yearsOf_144 ?_
                                          refine ln_toi (y := (nI (tn (sort v)))) (hs9.1) ?_
                                          refine ln_imul hx hb dX6_yearsOf_145 ?_
                                          refine lv_iload hx hb dX6_yearsOf_146 (lv_at hl 7 rfl) ?_
                                          refine ln_iadd hx hb dX6_yearsOf_148 ?_
                                          refine lv_dup2_11 hx hb dX6_yearsOf_149 rfl rfl ?_
                                          refine an_zald (f := g6) hx hb hK hP 16 2 rfl rfl (by decide) (by omega) dX6_yearsOf_150 ?_
                                          refine lv_iload hx hb dX6_yearsOf_151 (lv_at hl 6 rfl) ?_
                                          refine lv_if_eq (tgt := 176) hx hb dX6_yearsOf_153 (by decide) (fun c_153 => ?_) (fun c_153 => ?_)
                                          · have c_153 := (cz_eq_n (by omega)).mp c_153
                                            refine lv_aload_n hx hb dX6_yearsOf_176 rfl (lv_at hl 0 rfl) ?_
                                            refine an_get (ci := 6) (v := .ref (g.2.2 15)) (C := RX6) (T := TX6) (N := 23) hx hb hts iw_X6_yearsOf_X6 hown hK hP 0 rfl rfl 19 (by decide) (hts _ fl_X6_yearsOf_54) rfl dX6_yearsOf_177 ?_
                                            refine lv_sipush (v := (nI (3001))) hx hb dX6_yearsOf_180 (by decide) ?_
                                            refine lv_iload hx hb dX6_yearsOf_183 (lv_at hl 5 rfl) ?_
                                            refine ln_imul hx hb dX6_yearsOf_185 ?_
                                            refine lv_iload hx hb dX6_yearsOf_186 (lv_at hl 7 rfl) ?_
                                            refine ln_iadd hx hb dX6_yearsOf_188 ?_
                                            refine lv_aload_n hx hb dX6_yearsOf_189 rfl (lv_at hl 0 rfl) ?_
                                            refine an_get (ci := 6) (v := .ref (g.2.2 10)) (C := RX6) (T := TX6) (N := 23) hx hb hts iw_X6_yearsOf_X6 hown hK hP 0 rfl rfl 13 (by decide) (hts _ fl_X6_yearsOf_39) rfl dX6_yearsOf_190 ?_
                                            refine lv_iload hx hb dX6_yearsOf_193 (lv_at hl 4 rfl) ?_
                                            refine an_iald (f := own7) hx hb hK hP 10 0 rfl rfl (by decide) (by omega) dX6_yearsOf_195 ?_
                                            refine ln_toi (y := (nI ((owf value letter long1 counting custom) v))) (hq9.1) ?_
                                            refine ln_isub hx hb (by omega) dX6_yearsOf_196 ?_
                                            have hbx : bz (f1 (3001 * s2 + yy - (owf value letter long1 counting custom) v)) (yr draft letter long1 sort order (owf value letter long1 counting custom) L nv i s2 (yy - (owf value letter long1 counting custom) v)) := by have := (hf1.resolve_left c_77) s2 (yy - (owf value letter long1 counting custom) v) (by omega) (by omega); rw [show 3001 * s2 + (yy - (owf value letter long1 counting custom) v) = 3001 * s2 + yy - (owf value letter long1 counting custom) v by omega] at this; exact this
                                            refine an_zald (f := f1) hx hb hK hP 15 2 rfl rfl (by decide) (by omega) dX6_yearsOf_197 ?_
                                            refine lv_ior hx hb dX6_yearsOf_198 ?_
                                            refine an_zast (f := g6) (ws' := (wM g trace value draft (nI (L)) (nI (nv)) letter long1 feet sort order left opn own7 other pick (nI (pt)) frm size f1 (upd (g6) ((3001 * (tn (sort v))) + yy) ((g6 ((3001 * (tn (sort v))) + yy)) ||| (f1 (((3001 * s2) + yy) - ((owf value letter long1 counting custom) v))))) ways nextWays)) hx hb hK hP (wM_D hd) hS 16 2 rfl rfl (bz_nar (bz_or (hg6 (tn (sort v)) yy (by omega) (by omega)) hbx)) (by decide) (by omega) rfl dX6_yearsOf_199 (fun H locs hP hS => ?_)
                                            refine lv_iinc (v := (nI (yy + 1))) (lv' := [(7, .int (nI (yy + 1))), (0, .ref (g.2.2 0)), (1, .int (nI (counting))), (2, .int (nI (custom))), (3, .int (nI (i))), (4, .int (nI (v))), (5, .int (nI (s2))), (6, .int (nI (0)))]) hx hb dX6_yearsOf_200 hl (k := 7) rfl (nI_add _ 1) (by decide) rfl (fun ls hl => ?_)
                                            refine lv_goto (tgt := 123) hx hb dX6_yearsOf_203 (by decide) ?_
                                            exact ih_123 (yy + 1) (upd g6 (3001 * (tn (sort v)) + yy) (g6 (3001 * (tn (sort v)) + yy) ||| f1 (3001 * s2 + yy - (owf value letter long1 counting custom) v))) (by omega) (by omega) (yp3_s hg6 c_95 (by omega) hyy1 (by omega) hbx) (by omega) _ _ hP hS ls (lv_sub hl [1, 2, 3, 4, 5, 6, 7, 0] rfl)
                                          · have c_153 := (not_congr (cz_eq_n (by omega))).mp c_153
                                            exact absurd c_153 (by decide)
                                    exact lp_123 (3001 - (((owf value letter long1 counting custom) v)) + 1) ((owf value letter long1 counting custom) v) g5 (Nat.le_refl _) (Or.inr rfl) (yp3_0 hg5) (Nat.lt_succ_self _) _ _ hP hS ls (lv_sub hl [2, 3, 4, 5, 6, 7, 1, 0] rfl)
                                · have c_101 := (cv_eq_nn (by omega) (by omega)).mp c_101
                                  refine lv_iconst (v := (nI (1))) hx hb dX6_yearsOf_104 (by decide) ?_
                                  refine lv_goto (tgt := 109) hx hb dX6_yearsOf_105 (by decide) ?_
                                  refine lv_iload hx hb dX6_yearsOf_109 (lv_at hl 0 rfl) ?_
                                  refine lv_icmp_ne (tgt := 206) hx hb dX6_yearsOf_111 (by decide) (fun c_111 => ?_) (fun c_111 => ?_)
                                  · have c_111 := (not_congr (cv_eq_nn (by omega) (by omega))).mp c_111
                                    refine lv_iinc (v := (nI (s2 + 1))) (lv' := [(5, .int (nI (s2 + 1))), (6, .int (nI (0))), (0, .ref (g.2.2 0)), (1, .int (nI (counting))), (2, .int (nI (custom))), (3, .int (nI (i))), (4, .int (nI (v)))]) hx hb dX6_yearsOf_206 hl (k := 6) rfl (nI_add _ 1) (by decide) rfl (fun ls hl => ?_)
                                    refine lv_goto (tgt := 70) hx hb dX6_yearsOf_209 (by decide) ?_
                                    exact ih_70 (s2 + 1) g5 (by omega) (yp2_n hg5 (fun y z => yr_3 hso c_77 (by have := z.2; rw [show s2 = 3 by omega] at this; exact this))) (by omega) _ _ hP hS ls (lv_sub hl [2, 3, 4, 5, 6, 0] rfl)
                                  · have c_111 := (cv_eq_nn (by omega) (by omega)).mp c_111
                                    exact absurd c_111 (by decide)
                            · have c_77 := (cz_eq_n (by omega)).mp c_77
                              refine lv_iconst (v := (nI (1))) hx hb dX6_yearsOf_80 (by decide) ?_
                              refine lv_goto (tgt := 85) hx hb dX6_yearsOf_81 (by decide) ?_
                              refine lv_istore (lv' := [(6, .int (nI (1))), (0, .ref (g.2.2 0)), (1, .int (nI (counting))), (2, .int (nI (custom))), (3, .int (nI (i))), (4, .int (nI (v))), (5, .int (nI (s2)))]) hx hb dX6_yearsOf_85 hl (by decide) rfl (fun ls hl => ?_)
                              refine lv_aload_n hx hb dX6_yearsOf_87 rfl (lv_at hl 1 rfl) ?_
                              refine lv_iload hx hb dX6_yearsOf_88 (lv_at hl 6 rfl) ?_
                              refine lv_iload hx hb dX6_yearsOf_90 (lv_at hl 5 rfl) ?_
                              refine ro_call (va_runV (As := [.int (nI (s2)), .int (nI (v))]) (rest := []) ⟨hx, hb, hml, hown, hts⟩ (c_X6_isAfter l (g := g) (trace := trace) (value := value) (draft := draft) (typed := nI (L)) (vocables := nI (nv)) (letter := letter) (long1 := long1) (feet := feet) (sort := sort) (order := order) (left := left) (opn := opn) (own := own7) (other := other) (pick := pick) (parts := nI (pt)) (frm := frm) (size := size) (isYear := f1) (isNext := g5) (ways := ways) (nextWays := nextWays) (s2) (v) (by omega) (by omega)) (cwV 2 hts gX6_yearsOf_X6_isAfter rfl rfl rfl (by decide +kernel) ⟨Nat.le_of_ble_eq_true rfl, Nat.le_of_ble_eq_true rfl⟩) (pre_V pW_bl (va_recv hK hP (ci := 6) (q0 := 0) rfl rfl) (fun U hU hW => pW_of hP hK hN hU hW)) rfl rfl hl.1 rfl (lv_room (Nat.le_of_ble_eq_true rfl)) dX6_yearsOf_92 ⟨Nat.zero_le _, Nat.zero_le _⟩) ?_
                              refine lv_if_eq (tgt := 206) hx hb dX6_yearsOf_95 (by decide) (fun c_95 => ?_) (fun c_95 => ?_)
                              · have c_95 := if_n c_95
                                refine lv_iinc (v := (nI (s2 + 1))) (lv' := [(5, .int (nI (s2 + 1))), (6, .int (nI (1))), (0, .ref (g.2.2 0)), (1, .int (nI (counting))), (2, .int (nI (custom))), (3, .int (nI (i))), (4, .int (nI (v)))]) hx hb dX6_yearsOf_206 hl (k := 6) rfl (nI_add _ 1) (by decide) rfl (fun ls hl => ?_)
                                refine lv_goto (tgt := 70) hx hb dX6_yearsOf_209 (by decide) ?_
                                exact ih_70 (s2 + 1) g5 (by omega) (yp2_n hg5 (fun y z => c_95 z.1)) (by omega) _ _ hP hS ls (lv_sub hl [2, 3, 4, 5, 6, 0] rfl)
                              · have c_95 := if_p c_95
                                refine lv_iload hx hb dX6_yearsOf_98 (lv_at hl 6 rfl) ?_
                                refine lv_iconst (v := (nI (3))) hx hb dX6_yearsOf_100 (by decide) ?_
                                refine lv_icmp_ne (tgt := 108) hx hb dX6_yearsOf_101 (by decide) (fun c_101 => ?_) (fun c_101 => ?_)
                                · have c_101 := (not_congr (cv_eq_nn (by omega) (by omega))).mp c_101
                                  refine lv_iconst (v := (nI (0))) hx hb dX6_yearsOf_108 (by decide) ?_
                                  refine lv_iload hx hb dX6_yearsOf_109 (lv_at hl 0 rfl) ?_
                                  refine lv_icmp_ne (tgt := 206) hx hb dX6_yearsOf_111 (by decide) (fun c_111 => ?_) (fun c_111 => ?_)
                                  · have c_111 := (not_congr (cv_eq_nn (by omega) (by omega))).mp c_111
                                    refine lv_iinc (v := (nI (s2 + 1))) (lv' := [(5, .int (nI (s2 + 1))), (6, .int (nI (1))), (0, .ref (g.2.2 0)), (1, .int (nI (counting))), (2, .int (nI (custom))), (3, .int (nI (i))), (4, .int (nI (v)))]) hx hb dX6_yearsOf_206 hl (k := 6) rfl (nI_add _ 1) (by decide) rfl (fun ls hl => ?_)
                                    refine lv_goto (tgt := 70) hx hb dX6_yearsOf_209 (by decide) ?_
                                    exact ih_70 (s2 + 1) g5 (by omega) (yp2_n hg5 (fun y z => yr_0 c_101 (by have := z.2; rw [show i = 0 by omega] at this; exact this))) (by omega) _ _ hP hS ls (lv_sub hl [2, 3, 4, 5, 6, 0] rfl)
                                  · have c_111 := (cv_eq_nn (by omega) (by omega)).mp c_111
                                    exact absurd c_111 (by decide)
                                · have c_101 := (cv_eq_nn (by omega) (by omega)).mp c_101
                                  refine lv_iconst (v := (nI (1))) hx hb dX6_yearsOf_104 (by decide) ?_
                                  refine lv_goto (tgt := 109) hx hb dX6_yearsOf_105 (by decide) ?_
                                  refine lv_iload hx hb dX6_yearsOf_109 (lv_at hl 0 rfl) ?_
                                  refine lv_icmp_ne (tgt := 206) hx hb dX6_yearsOf_111 (by decide) (fun c_111 => ?_) (fun c_111 => ?_)
                                  · have c_111 := (not_congr (cv_eq_nn (by omega) (by omega))).mp c_111
                                    exact absurd c_111 (by decide)
                                  · have c_111 := (cv_eq_nn (by omega) (by omega)).mp c_111
                                    refine lv_aload_n hx hb dX6_yearsOf_114 rfl (lv_at hl 1 rfl) ?_
                                    refine an_get (ci := 6) (v := .ref (g.2.2 10)) (C := RX6) (T := TX6) (N := 23) hx hb hts iw_X6_yearsOf_X6 hown hK hP 0 rfl rfl 13 (by decide) (hts _ fl_X6_yearsOf_39) rfl dX6_yearsOf_115 ?_
                                    refine lv_iload hx hb dX6_yearsOf_118 (lv_at hl 5 rfl) ?_
                                    refine an_iald (f := own7) hx hb hK hP 10 0 rfl rfl (by decide) (by omega) dX6_yearsOf_120 ?_
                                    refine ln_toi (y := (nI ((owf value letter long1 counting custom) v))) (hq9.1) ?_
                                    refine lv_istore (lv' := [(7, .int (nI ((owf value letter long1 counting custom) v))), (6, .int (nI (1))), (0, .ref (g.2.2 0)), (1, .int (nI (counting))), (2, .int (nI (custom))), (3, .int (nI (i))), (4, .int (nI (v))), (5, .int (nI (s2)))]) hx hb dX6_yearsOf_121 hl (by decide) rfl (fun ls hl => ?_)
                                    have lp_123 : ∀ (n : Nat) (yy : Nat) (g6 : Nat → Int32), ((owf value letter long1 counting custom) v ≤ yy) → (yy ≤ 3001 ∨ yy = (owf value letter long1 counting custom) v) → (yM g6 (yp3 draft letter long1 sort order (owf value letter long1 counting custom) L nv i v s2 yy)) → 3001 - yy < n → ∀ (H : Heap) (locs : List Loc), va_P g.1 vwCl (wM g trace value draft (nI (L)) (nI (nv)) letter long1 feet sort order left opn own7 other pick (nI (pt)) frm size f1 g6 ways nextWays) H → va_S (aW 19 g.2.2 s.heap.size) s.heap H locs → ∀ (ls : Array Slot), lv_has ls 8 [(0, .ref (g.2.2 0)), (1, .int (nI (counting))), (2, .int (nI (custom))), (3, .int (nI (i))), (4, .int (nI (v))), (5, .int (nI (s2))), (6, .int (nI (1))), (7, .int (nI (yy)))] → W p l e (headSpec wsX6_yearsOf ({ frames := 5, cells := 0, slots := 0, locals := 114 })).room s m (([.ref (g.2.2 0), .int (nI (counting)), .int (nI (custom))] : List Value).toArray) below meth c H locs 0 0 (MQ below (va_Qv (fun (z : (Nat → Int32) × (Nat → Int32) × (Nat → Int32)) => pt = 0 ∨ yM z.2.1 (yr draft letter long1 sort order (owf value letter long1 counting custom) L nv pt)) (fun (z : (Nat → Int32) × (Nat → Int32) × (Nat → Int32)) (t : State) => va_P g.1 vwCl (wM g trace value draft (nI (L)) (nI (nv)) letter long1 feet sort order left opn (z.1) other pick (nI (pt)) frm size (z.2.1) (z.2.2) ways nextWays) t.heap) (aW 19 g.2.2 s.heap.size)) (([.ref (g.2.2 0), .int (nI (counting)), .int (nI (custom))] : List Value).toArray) s 0 0 (aW 19 g.2.2 s.heap.size)) (F0 m 123 ls []) := by
                                      intro n
                                      induction n with
                                      | zero => intro yy g6 hyy1 hyy2 hg6 hm; exact absurd hm (Nat.not_lt_zero _)
                                      | succ n ih_123 =>
                                        intro yy g6 hyy1 hyy2 hg6 hm_123 H locs hP hS ls hl
                                        refine lv_iload hx hb dX6_yearsOf_123 (lv_at hl 7 rfl) ?_
                                        refine lv_sipush (v := (nI (3000))) hx hb dX6_yearsOf_125 (by decide) ?_
                                        refine lv_icmp_gt (tgt := 206) hx hb dX6_yearsOf_128 (by decide) (fun c_128 => ?_) (fun c_128 => ?_)
                                        · have c_128 := (cv_lt_nn (by omega) (by omega)).mp c_128
                                          refine lv_iinc (v := (nI (s2 + 1))) (lv' := [(5, .int (nI (s2 + 1))), (0, .ref (g.2.2 0)), (1, .int (nI (counting))), (2, .int (nI (custom))), (3, .int (nI (i))), (4, .int (nI (v))), (6, .int (nI (1))), (7, .int (nI (yy)))]) hx hb dX6_yearsOf_206 hl (k := 5) rfl (nI_add _ 1) (by decide) rfl (fun ls hl => ?_)
                                          refine lv_goto (tgt := 70) hx hb dX6_yearsOf_209 (by decide) ?_
                                          exact ih_70 (s2 + 1) g6 (by omega) (yp3_e hg6 c_95 (by omega)) (by omega) _ _ hP hS ls (lv_sub hl [1, 2, 3, 4, 5, 0] rfl)
                                        · have c_128 := (not_congr (cv_lt_nn (by omega) (by omega))).mp c_128
                                          refine lv_aload_n hx hb dX6_yearsOf_131 rfl (lv_at hl 0 rfl) ?_
                                          refine an_get (ci := 6) (v := .ref (g.2.2 16)) (C := RX6) (T := TX6) (N := 23) hx hb hts iw_X6_yearsOf_X6 hown hK hP 0 rfl rfl 20 (by decide) (hts _ fl_X6_yearsOf_58) rfl dX6_yearsOf_132 ?_
                                          refine lv_sipush (v := (nI (3001))) hx hb dX6_yearsOf_135 (by decide) ?_
                                          refine lv_aload_n hx hb dX6_yearsOf_138 rfl (lv_at hl 0 rfl) ?_
                                          refine an_get (ci := 6) (v := .ref (g.2.2 6)) (C := RX6) (T := TX6) (N := 23) hx hb hts iw_X6_yearsOf_X6 hown hK hP 0 rfl rfl 9 (by decide) (hts _ fl_X6_yearsOf_25) rfl dX6_yearsOf_139 ?_
                                          refine lv_iload hx hb dX6_yearsOf_142 (lv_at hl 4 rfl) ?_
                                          refine an_iald (f := sort) hx hb hK hP 6 0 rfl rfl (by decide) (by omega) dX6_yearsOf_144 ?_
                                          refine ln_toi (y := (nI (tn (sort v)))) (hs9.1) ?_
                                          refine ln_imul hx hb dX6_yearsOf_145 ?_
                                          refine lv_iload hx hb dX6_yearsOf_146 (lv_at hl 7 rfl) ?_
                                          refine ln_iadd hx hb dX6_yearsOf_148 ?_
                                          refine lv_dup2_11 hx hb dX6_yearsOf_149 rfl rfl ?_
                                          refine an_zald (f := g6) hx hb hK hP 16 2 rfl rfl (by decide) (by omega) dX6_yearsOf_150 ?_
                                          refine lv_iload hx hb dX6_yearsOf_151 (lv_at hl 6 rfl) ?_
                                          refine lv_if_eq (tgt := 176) hx hb dX6_yearsOf_153 (by decide) (fun c_153 => ?_) (fun c_153 => ?_)
                                          · have c_153 := (cz_eq_n (by omega)).mp c_153
                                            exact absurd c_153 (by decide)
                                          · have c_153 := (not_congr (cz_eq_n (by omega))).mp c_153
                                            refine lv_iload hx hb dX6_yearsOf_156 (lv_at hl 7 rfl) ?_
                                            refine lv_aload_n hx hb dX6_yearsOf_158 rfl (lv_at hl 0 rfl) ?_
                                            refine an_get (ci := 6) (v := .ref (g.2.2 10)) (C := RX6) (T := TX6) (N := 23) hx hb hts iw_X6_yearsOf_X6 hown hK hP 0 rfl rfl 13 (by decide) (hts _ fl_X6_yearsOf_39) rfl dX6_yearsOf_159 ?_
                                            refine lv_iload hx hb dX6_yearsOf_162 (lv_at hl 4 rfl) ?_
                                            refine an_iald (f := own7) hx hb hK hP 10 0 rfl rfl (by decide) (by omega) dX6_yearsOf_164 ?_
                                            refine ln_toi (y := (nI ((owf value letter long1 counting custom) v))) (hq9.1) ?_
                                            refine lv_icmp_ne (tgt := 172) hx hb dX6_yearsOf_165 (by decide) (fun c_165 => ?_) (fun c_165 => ?_)
                                            · have c_165 := (not_congr (cv_eq_nn (by omega) (by omega))).mp c_165
                                              have hbx : bz (nI 0) (yr draft letter long1 sort order (owf value letter long1 counting custom) L nv i s2 (yy - (owf value letter long1 counting custom) v)) := Or.inr ⟨rfl, by rw [show i = 0 by omega]; exact fun z => absurd z.2 (by omega)⟩
                                              refine lv_iconst (v := (nI (0))) hx hb dX6_yearsOf_172 (by decide) ?_
                                              refine lv_goto (tgt := 198) hx hb dX6_yearsOf_173 (by decide) ?_
                                              refine lv_ior hx hb dX6_yearsOf_198 ?_
                                              refine an_zast (f := g6) (ws' := (wM g trace value draft (nI (L)) (nI (nv)) letter long1 feet sort order left opn own7 other pick (nI (pt)) frm size f1 (upd (g6) ((3001 * (tn (sort v))) + yy) ((g6 ((3001 * (tn (sort v))) + yy)) ||| (nI (0)))) ways nextWays)) hx hb hK hP (wM_D hd) hS 16 2 rfl rfl (bz_nar (bz_or (hg6 (tn (sort v)) yy (by omega) (by omega)) hbx)) (by decide) (by omega) rfl dX6_yearsOf_199 (fun H locs hP hS => ?_)
                                              refine lv_iinc (v := (nI (yy + 1))) (lv' := [(7, .int (nI (yy + 1))), (0, .ref (g.2.2 0)), (1, .int (nI (counting))), (2, .int (nI (custom))), (3, .int (nI (i))), (4, .int (nI (v))), (5, .int (nI (s2))), (6, .int (nI (1)))]) hx hb dX6_yearsOf_200 hl (k := 7) rfl (nI_add _ 1) (by decide) rfl (fun ls hl => ?_)
                                              refine lv_goto (tgt := 123) hx hb dX6_yearsOf_203 (by decide) ?_
                                              exact ih_123 (yy + 1) (upd g6 (3001 * (tn (sort v)) + yy) (g6 (3001 * (tn (sort v)) + yy) ||| nI 0)) (by omega) (by omega) (yp3_s hg6 c_95 (by omega) hyy1 (by omega) hbx) (by omega) _ _ hP hS ls (lv_sub hl [1, 2, 3, 4, 5, 6, 7, 0] rfl)
                                            · have c_165 := (cv_eq_nn (by omega) (by omega)).mp c_165
                                              have hbx : bz (nI 1) (yr draft letter long1 sort order (owf value letter long1 counting custom) L nv i s2 (yy - (owf value letter long1 counting custom) v)) := Or.inl ⟨rfl, by rw [show i = 0 by omega, show s2 = 3 by omega, show yy - (owf value letter long1 counting custom) v = 0 by omega]; exact ⟨rfl, rfl⟩⟩
                                              refine lv_iconst (v := (nI (1))) hx hb dX6_yearsOf_168 (by decide) ?_
                                              refine lv_goto (tgt := 198) hx hb dX6_yearsOf_169 (by decide) ?_
                                              refine lv_ior hx hb dX6_yearsOf_198 ?_
                                              refine an_zast (f := g6) (ws' := (wM g trace value draft (nI (L)) (nI (nv)) letter long1 feet sort order left opn own7 other pick (nI (pt)) frm size f1 (upd (g6) ((3001 * (tn (sort v))) + yy) ((g6 ((3001 * (tn (sort v))) + yy)) ||| (nI (1)))) ways nextWays)) hx hb hK hP (wM_D hd) hS 16 2 rfl rfl (bz_nar (bz_or (hg6 (tn (sort v)) yy (by omega) (by omega)) hbx)) (by decide) (by omega) rfl dX6_yearsOf_199 (fun H locs hP hS => ?_)
                                              refine lv_iinc (v := (nI (yy + 1))) (lv' := [(7, .int (nI (yy + 1))), (0, .ref (g.2.2 0)), (1, .int (nI (counting))), (2, .int (nI (custom))), (3, .int (nI (i))), (4, .int (nI (v))), (5, .int (nI (s2))), (6, .int (nI (1)))]) hx hb dX6_yearsOf_200 hl (k := 7) rfl (nI_add _ 1) (by decide) rfl (fun ls hl => ?_)
                                              refine lv_goto (tgt := 123) hx hb dX6_yearsOf_203 (by decide) ?_
                                              exact ih_123 (yy + 1) (upd g6 (3001 * (tn (sort v)) + yy) (g6 (3001 * (tn (sort v)) + yy) ||| nI 1)) (by omega) (by omega) (yp3_s hg6 c_95 (by omega) hyy1 (by omega) hbx) (by omega) _ _ hP hS ls (lv_sub hl [1, 2, 3, 4, 5, 6, 7, 0] rfl)
                                    exact lp_123 (3001 - (((owf value letter long1 counting custom) v)) + 1) ((owf value letter long1 counting custom) v) g5 (Nat.le_refl _) (Or.inr rfl) (yp3_0 hg5) (Nat.lt_succ_self _) _ _ hP hS ls (lv_sub hl [2, 3, 4, 5, 6, 7, 1, 0] rfl)
                      exact lp_70 (4 - (0) + 1) 0 g4 (Nat.zero_le _) (yp2_0 hg4) (Nat.lt_succ_self _) _ _ hP hS ls (lv_sub hl [1, 2, 3, 4, 5, 0] rfl)
              exact lp_48 (nv - (0) + 1) 0 g3 (Nat.zero_le _) (yp1_0 (fun j hj => hg3 j (by omega))) (Nat.lt_succ_self _) _ _ hP hS ls (lv_sub hl [1, 2, 3, 4, 0] rfl)
            · have c_28 := (not_congr (cv_le_nn (by omega) (by omega))).mp c_28
              refine lv_aload_n hx hb dX6_yearsOf_31 rfl (lv_at hl 0 rfl) ?_
              refine an_get (ci := 6) (v := .ref (g.2.2 16)) (C := RX6) (T := TX6) (N := 23) hx hb hts iw_X6_yearsOf_X6 hown hK hP 0 rfl rfl 20 (by decide) (hts _ fl_X6_yearsOf_58) rfl dX6_yearsOf_32 ?_
              refine lv_iload hx hb dX6_yearsOf_35 (lv_at hl 4 rfl) ?_
              refine lv_iconst (v := (nI (0))) hx hb dX6_yearsOf_37 (by decide) ?_
              refine an_zast (f := g3) (ws' := (wM g trace value draft (nI (L)) (nI (nv)) letter long1 feet sort order left opn own7 other pick (nI (pt)) frm size f1 (upd (g3) (k) (nI (0))) ways nextWays)) hx hb hK hP (wM_D hd) hS 16 2 rfl rfl (rfl) (by decide) (by omega) rfl dX6_yearsOf_38 (fun H locs hP hS => ?_)
              refine lv_iinc (v := (nI (k + 1))) (lv' := [(4, .int (nI (k + 1))), (0, .ref (g.2.2 0)), (1, .int (nI (counting))), (2, .int (nI (custom))), (3, .int (nI (i)))]) hx hb dX6_yearsOf_39 hl (k := 4) rfl (nI_add _ 1) (by decide) rfl (fun ls hl => ?_)
              refine lv_goto (tgt := 23) hx hb dX6_yearsOf_42 (by decide) ?_
              exact ih_23 (k + 1) (upd g3 k (nI 0)) (by omega) (fillI_s (w := fun _ => nI 0) hg3) (by omega) _ _ hP hS ls (lv_sub hl [1, 2, 3, 4, 0] rfl)
        exact lp_23 (9003 - (0) + 1) 0 f2 (Nat.zero_le _) (fun j h => absurd h (Nat.not_lt_zero j)) (Nat.lt_succ_self _) _ _ hP hS ls (lv_sub hl [1, 2, 3, 4, 0] rfl)
  exact lp_12 (pt - (0) + 1) 0 isYear isNext (Nat.zero_le _) (Or.inl rfl) (Nat.lt_succ_self _) _ _ hP hS ls (lv_sub hl [1, 2, 3, 0] rfl)
theorem iw_X6_years_X6 : ∀ w ∈ u_ws RX6 TX6 23, w ∈ wsX6_years := by decide +kernel
theorem fl_X6_years_54 : Cond.fieldLink RX6 54 (TX6 19).1 (TX6 19).2.1 (TX6 19).2.2.1 ∈ wsX6_years := by decide +kernel
theorem fl_X6_years_67 : Cond.fieldLink RX6 67 (TX6 0).1 (TX6 0).2.1 (TX6 0).2.2.1 ∈ wsX6_years := by decide +kernel
theorem fl_X6_years_154 : Cond.fieldLink RX6 154 (TX6 16).1 (TX6 16).2.1 (TX6 16).2.2.1 ∈ wsX6_years := by decide +kernel
set_option maxHeartbeats 200000 in
set_option maxRecDepth 100000 in
theorem c_X6_years (l : Launch) {g : GW} {trace : Int64} {value : Nat → Int32} {draft : Nat → Int32} {L : Nat} {nv : Nat} {letter : Nat → Int32} {long1 : Nat → Int32} {feet : Nat → Int32} {sort : Nat → Int32} {order : Nat → Int32} {left : Nat → Int64} {opn : Nat → Int64} {own : Nat → Int32} {other : Nat → Int32} {pick : Nat → Int32} {parts : Int32} {frm : Nat → Int32} {size : Nat → Int32} {isYear : Nat → Int32} {isNext : Nat → Int32} {ways : Nat → Int64} {nextWays : Nat → Int64} {sz : Nat} (counting : Int32) (custom : Int32) (what : Int32) (hnv : nv ≤ 10) (hL2 : L ≤ 40) (hle : okV long1 nv 1 8) (hso : okV sort nv 0 2) (hva : okV value 104 0 1000) (hd : dW 19 g.2.2) : Met l yX6_years wsX6_years ({ frames := 6, cells := 0, slots := 0, locals := 141 }) (va_Pc ([.ref (g.2.2 0), .int (counting), .int (custom), .int (what)]) (qW g (wM g trace value draft (nI (L)) (nI (nv)) letter long1 feet sort order left opn own other pick parts frm size isYear isNext ways nextWays) sz)) (va_Qi (fun (r : Int32) (z : Int32 × (Nat → Int32) × (Nat → Int32) × (Nat → Int32) × (Nat → Int32) × (Nat → Int32)) => r = aYears value draft letter long1 sort order L nv counting custom what) (fun (z : Int32 × (Nat → Int32) × (Nat → Int32) × (Nat → Int32) × (Nat → Int32) × (Nat → Int32)) (t : State) => va_P g.1 vwCl (wM g trace value draft (nI (L)) (nI (nv)) letter long1 feet sort order left opn (z.2.2.2.1) other pick (z.1) (z.2.1) (z.2.2.1) (z.2.2.2.2.1) (z.2.2.2.2.2) ways nextWays) t.heap) (aW 19 g.2.2 sz)) 0 0 (aW 19 g.2.2 sz) := by
  refine Met.ofW (cc := cX6_years) (maxL := 8) (ret := (some .int)) (by decide) rfl ?_
  intro p e s m args below meth c s₁ B hml hv
  obtain ⟨rfl, hsz9, hP, hK, hN⟩ := hv
  subst hsz9
  have hx := B.exec
  have hb := B.bytes
  have hr := B.returns
  have hts := atoms_spec (ws := wsX6_years) B.pre
  have hown : s.vm.findClass RX6 = some m.cls := findClass_of_methodNamed B.named
  have hlocks := B.notSynchronized
  have hS : va_S (aW 19 g.2.2 s.heap.size) s.heap s.heap [] := va_S.rf
  have hl := lv_entry ([.ref (g.2.2 0), .int (counting), .int (custom), .int (what)]) (n := 8) (Nat.le_of_ble_eq_true rfl)
  rw [lg_entry_eq]
  generalize (lg_sl ([.ref (g.2.2 0), .int (counting), .int (custom), .int (what)]) ++ List.replicate (8 - (lg_sl ([.ref (g.2.2 0), .int (counting), .int (custom), .int (what)])).length) Slot.unset).toArray = ls at hl ⊢
  have hl : lv_has ls 8 [(0, .ref (g.2.2 0)), (1, .int (counting)), (2, .int (custom)), (3, .int (what))] := hl
  have hp20 := pn_room draft L
  refine lv_aload_n hx hb dX6_years_0 rfl (lv_at hl 0 rfl) ?_
  refine lv_iconst (v := (nI (0))) hx hb dX6_years_1 (by decide) ?_
  refine an_put (ci := 6) (v := .int (nI (0))) (ty := .int) (C := RX6) (T := TX6) (N := 23) (ws' := (wM g trace value draft (nI (L)) (nI (nv)) letter long1 feet sort order left opn own other pick parts frm size isYear isNext ways nextWays)) hx hb hts iw_X6_years_X6 tyX6 tyX6_ok nmX6 hown hK hP (wM_D hd) hS 0 rfl rfl 0 (by decide) (hts _ fl_X6_years_67) rfl (by decide +kernel) (rfl) (rfl) (Nat.le_of_ble_eq_true rfl) rfl dX6_years_2 (fun H locs hP hS => ?_)
  refine lv_iload_n hx hb dX6_years_5 rfl (lv_at hl 1 rfl) ?_
  refine lv_iload_n hx hb dX6_years_6 rfl (lv_at hl 2 rfl) ?_
  refine ro_call (va_runS (As := [.int (counting), .int (custom)]) (rest := []) ⟨hx, hb, hml, hown, hts⟩ (c_X6_isWay l (counting) (custom)) (va_cwS 2 hts gX6_years_X6_isWay rfl rfl rfl (by decide +kernel) ⟨Nat.le_of_ble_eq_true rfl, Nat.le_of_ble_eq_true rfl⟩) pre_0 rfl rfl hl.1 rfl (lv_room (Nat.le_of_ble_eq_true rfl)) dX6_years_7 ⟨Nat.zero_le _, Nat.zero_le _⟩) ?_
  refine lv_if_eq (tgt := 25) hx hb dX6_years_10 (by decide) (fun c_10 => ?_) (fun c_10 => ?_)
  · have c_10 := if_n c_10
    refine lv_iconst (v := ((-1 : Int32))) hx hb dX6_years_25 (by decide) ?_
    exact wr_iret (parts, frm, size, own, isYear, isNext) hx hb hr hlocks (by unfold aYears; rw [if_neg (fun z => by first | exact c_10 z.1 | exact c_22 z.2 | omega)]) (fun t ht => show va_P g.1 vwCl (wM g trace value draft (nI (L)) (nI (nv)) letter long1 feet sort order left opn own other pick parts frm size isYear isNext ways nextWays) t.heap by rw [ht]; exact hP) hS dX6_years_26
  · have c_10 := if_p c_10
    refine lv_iload_n hx hb dX6_years_13 rfl (lv_at hl 3 rfl) ?_
    refine lv_i2l hx hb dX6_years_14 rfl ?_
    refine lv_lconst (v := (lN (0))) hx hb dX6_years_15 (by decide) ?_
    refine lv_ldc2 hx hb hown (hts (.constantLong RX6 71 (3)) (by decide +kernel)) dX6_years_16 ?_
    refine ln_tol (y := lN 3) (by decide) ?_
    refine ro_call (va_runS (As := [.long ((what).toInt64), .long (lN (0)), .long (lN (3))]) (rest := []) ⟨hx, hb, hml, hown, hts⟩ (c_X6_in l ((what)) (0) (3) (by decide) (by decide)) (va_cwS 3 hts gX6_years_X6_in rfl rfl rfl (by decide +kernel) ⟨Nat.le_of_ble_eq_true rfl, Nat.le_of_ble_eq_true rfl⟩) pre_0 rfl rfl hl.1 rfl (lv_room (Nat.le_of_ble_eq_true rfl)) dX6_years_19 ⟨Nat.zero_le _, Nat.zero_le _⟩) ?_
    refine lv_if_ne (tgt := 27) hx hb dX6_years_22 (by decide) (fun c_22 => ?_) (fun c_22 => ?_)
    · have c_22 := if_p c_22
      refine lv_aload_n hx hb dX6_years_27 rfl (lv_at hl 0 rfl) ?_
      refine wr_callv (w := (fun (z : (Nat → Int32) × (Nat → Int32) × Int32) => (wM g trace value draft (nI (L)) (nI (nv)) letter long1 feet sort order left opn own other pick (z.2.2) (z.1) (z.2.1) isYear isNext ways nextWays))) (va_runV (As := []) (rest := []) ⟨hx, hb, hml, hown, hts⟩ (c_X6_parts l (g := g) (trace := trace) (value := value) (draft := draft) (L := L) (vocables := nI (nv)) (letter := letter) (long1 := long1) (feet := feet) (sort := sort) (order := order) (left := left) (opn := opn) (own := own) (other := other) (pick := pick) (parts := parts) (frm := frm) (size := size) (isYear := isYear) (isNext := isNext) (ways := ways) (nextWays := nextWays) (sz := _)  hL2 hd) (cwV 0 hts gX6_years_X6_parts rfl rfl rfl (by decide +kernel) ⟨Nat.le_of_ble_eq_true rfl, Nat.le_of_ble_eq_true rfl⟩) (pre_V qW_bl (va_recv hK hP (ci := 6) (q0 := 0) rfl rfl) (fun U hU hW => ⟨by rw [hU], pW_of hP hK hN hU hW⟩)) rfl rfl hl.1 rfl (lv_room (Nat.le_of_ble_eq_true rfl)) dX6_years_28 ⟨Nat.zero_le _, Nat.zero_le _⟩) hS (fun z28 H locs hp28 hP hS => ?_)
      obtain ⟨frm28, size28, parts28⟩ := z28
      try dsimp only at hp28
      have hP : va_P g.1 vwCl (wM g trace value draft (nI (L)) (nI (nv)) letter long1 feet sort order left opn own other pick parts28 frm28 size28 isYear isNext ways nextWays) H := hP
      obtain ⟨hq1, hq2⟩ := hp28
      subst hq1
      refine lv_aload_n hx hb dX6_years_31 rfl (lv_at hl 0 rfl) ?_
      refine an_get (ci := 6) (v := .int (nI (pn draft L))) (C := RX6) (T := TX6) (N := 23) hx hb hts iw_X6_years_X6 hown hK hP 0 rfl rfl 16 (by decide) (hts _ fl_X6_years_154) rfl dX6_years_32 ?_
      refine lv_if_ne (tgt := 41) hx hb dX6_years_35 (by decide) (fun c_35 => ?_) (fun c_35 => ?_)
      · have c_35 := (not_congr (cz_eq_n (by omega))).mp c_35
        have cA : way counting custom ∧ (0 ≤ what.toInt ∧ what.toInt < 4) := ⟨c_10, by omega⟩
        obtain ⟨n9, hn9, rfl⟩ := iN_of (b := 3) c_10.1.1 c_10.1.2
        obtain ⟨k9, hk9, rfl⟩ := iN_of (b := 4) c_10.2.1 c_10.2.2
        have e0 : tn (nI n9) = n9 := tn_nI (by omega)
        have e1 : tn (nI k9) = k9 := tn_nI (by omega)
        have e2 : ¬ pn draft L = 0 := by omega
        refine lv_aload_n hx hb dX6_years_41 rfl (lv_at hl 0 rfl) ?_
        refine lv_iload_n hx hb dX6_years_42 rfl (lv_at hl 1 rfl) ?_
        refine lv_iload_n hx hb dX6_years_43 rfl (lv_at hl 2 rfl) ?_
        refine wr_callv (w := (fun (z : (Nat → Int32) × (Nat → Int32) × (Nat → Int32)) => (wM g trace value draft (nI (L)) (nI (nv)) letter long1 feet sort order left opn (z.1) other pick (nI (pn draft L)) frm28 size28 (z.2.1) (z.2.2) ways nextWays))) (va_runV (As := [.int (nI (n9)), .int (nI (k9))]) (rest := []) ⟨hx, hb, hml, hown, hts⟩ (c_X6_yearsOf l (g := g) (trace := trace) (value := value) (draft := draft) (L := L) (nv := nv) (letter := letter) (long1 := long1) (feet := feet) (sort := sort) (order := order) (left := left) (opn := opn) (own := own) (other := other) (pick := pick) (pt := pn draft L) (frm := frm28) (size := size28) (isYear := isYear) (isNext := isNext) (ways := ways) (nextWays := nextWays) (sz := _) (n9) (k9) hn9 hk9 rfl hq2 hnv hL2 hle hso hva hd) (cwV 2 hts gX6_years_X6_yearsOf rfl rfl rfl (by decide +kernel) ⟨Nat.le_of_ble_eq_true rfl, Nat.le_of_ble_eq_true rfl⟩) (pre_V qW_bl (va_recv hK hP (ci := 6) (q0 := 0) rfl rfl) (fun U hU hW => ⟨by rw [hU], pW_of hP hK hN hU hW⟩)) rfl rfl hl.1 rfl (lv_room (Nat.le_of_ble_eq_true rfl)) dX6_years_44 ⟨Nat.zero_le _, Nat.zero_le _⟩) hS (fun z44 H locs hp44 hP hS => ?_)
        obtain ⟨own44, isYear44, isNext44⟩ := z44
        try dsimp only at hp44
        have hP : va_P g.1 vwCl (wM g trace value draft (nI (L)) (nI (nv)) letter long1 feet sort order left opn own44 other pick (nI (pn draft L)) frm28 size28 isYear44 isNext44 ways nextWays) H := hP
        have hyM := hp44.resolve_left e2
        refine lv_iconst (v := (nI (0))) hx hb dX6_years_47 (by decide) ?_
        refine lv_istore (lv' := [(4, .int (nI (0))), (0, .ref (g.2.2 0)), (1, .int (nI (n9))), (2, .int (nI (k9))), (3, .int (what))]) hx hb dX6_years_48 hl (by decide) rfl (fun ls hl => ?_)
        refine lv_bipush (v := ((-9 : Int32))) hx hb dX6_years_50 (by decide) ?_
        refine lv_istore (lv' := [(5, .int ((-9 : Int32))), (4, .int (nI (0))), (0, .ref (g.2.2 0)), (1, .int (nI (n9))), (2, .int (nI (k9))), (3, .int (what))]) hx hb dX6_years_52 hl (by decide) rfl (fun ls hl => ?_)
        refine lv_bipush (v := ((-9 : Int32))) hx hb dX6_years_54 (by decide) ?_
        refine lv_istore (lv' := [(6, .int ((-9 : Int32))), (5, .int ((-9 : Int32))), (4, .int (nI (0))), (0, .ref (g.2.2 0)), (1, .int (nI (n9))), (2, .int (nI (k9))), (3, .int (what))]) hx hb dX6_years_56 hl (by decide) rfl (fun ls hl => ?_)
        refine lv_iconst (v := (nI (0))) hx hb dX6_years_58 (by decide) ?_
        refine lv_istore (lv' := [(7, .int (nI (0))), (6, .int ((-9 : Int32))), (5, .int ((-9 : Int32))), (4, .int (nI (0))), (0, .ref (g.2.2 0)), (1, .int (nI (n9))), (2, .int (nI (k9))), (3, .int (what))]) hx hb dX6_years_59 hl (by decide) rfl (fun ls hl => ?_)
        have lp_61 : ∀ (n : Nat) (yy : Nat), (yy ≤ 3001) → 3001 - yy < n → ∀ (H : Heap) (locs : List Loc), va_P g.1 vwCl (wM g trace value draft (nI (L)) (nI (nv)) letter long1 feet sort order left opn own44 other pick (nI (pn draft L)) frm28 size28 isYear44 isNext44 ways nextWays) H → va_S (aW 19 g.2.2 s.heap.size) s.heap H locs → ∀ (ls : Array Slot), lv_has ls 8 [(0, .ref (g.2.2 0)), (1, .int (nI (n9))), (2, .int (nI (k9))), (3, .int (what)), (4, .int (nI (ycn (yq draft letter long1 sort order (owf value letter long1 n9 k9) L nv (pn draft L)) yy))), (5, .int (yfi (yq draft letter long1 sort order (owf value letter long1 n9 k9) L nv (pn draft L)) yy)), (6, .int (yla (yq draft letter long1 sort order (owf value letter long1 n9 k9) L nv (pn draft L)) yy)), (7, .int (nI (yy)))] → W p l e (headSpec wsX6_years ({ frames := 6, cells := 0, slots := 0, locals := 141 })).room s m (([.ref (g.2.2 0), .int ((nI (n9))), .int ((nI (k9))), .int (what)] : List Value).toArray) below meth c H locs 0 0 (MQ below (va_Qi (fun (r : Int32) (z : Int32 × (Nat → Int32) × (Nat → Int32) × (Nat → Int32) × (Nat → Int32) × (Nat → Int32)) => r = aYears value draft letter long1 sort order L nv (nI (n9)) (nI (k9)) what) (fun (z : Int32 × (Nat → Int32) × (Nat → Int32) × (Nat → Int32) × (Nat → Int32) × (Nat → Int32)) (t : State) => va_P g.1 vwCl (wM g trace value draft (nI (L)) (nI (nv)) letter long1 feet sort order left opn (z.2.2.2.1) other pick (z.1) (z.2.1) (z.2.2.1) (z.2.2.2.2.1) (z.2.2.2.2.2) ways nextWays) t.heap) (aW 19 g.2.2 s.heap.size)) (([.ref (g.2.2 0), .int ((nI (n9))), .int ((nI (k9))), .int (what)] : List Value).toArray) s 0 0 (aW 19 g.2.2 s.heap.size)) (F0 m 61 ls []) := by
          intro n
          induction n with
          | zero => intro yy hy hm; exact absurd hm (Nat.not_lt_zero _)
          | succ n ih_61 =>
            intro yy hy hm_61 H locs hP hS ls hl
            refine lv_iload hx hb dX6_years_61 (lv_at hl 7 rfl) ?_
            refine lv_sipush (v := (nI (3000))) hx hb dX6_years_63 (by decide) ?_
            refine lv_icmp_gt (tgt := 136) hx hb dX6_years_66 (by decide) (fun c_66 => ?_) (fun c_66 => ?_)
            · have c_66 := (cv_lt_nn (by omega) (by omega)).mp c_66
              have e3 : yy = 3001 := by omega
              have hy3 := ycn_le (yq draft letter long1 sort order (owf value letter long1 n9 k9) L nv (pn draft L)) yy
              refine lv_iload_n hx hb dX6_years_136 rfl (lv_at hl 3 rfl) ?_
              refine lv_if_ne (tgt := 145) hx hb dX6_years_137 (by decide) (fun c_137 => ?_) (fun c_137 => ?_)
              · have c_137 := (not_congr (cz_eq_i)).mp c_137
                refine lv_iload_n hx hb dX6_years_145 rfl (lv_at hl 3 rfl) ?_
                refine lv_iconst (v := (nI (1))) hx hb dX6_years_146 (by decide) ?_
                refine lv_icmp_ne (tgt := 155) hx hb dX6_years_147 (by decide) (fun c_147 => ?_) (fun c_147 => ?_)
                · have c_147 := (not_congr (cv_eq_in (by omega))).mp c_147
                  refine lv_iload_n hx hb dX6_years_155 rfl (lv_at hl 3 rfl) ?_
                  refine lv_iconst (v := (nI (2))) hx hb dX6_years_156 (by decide) ?_
                  refine lv_icmp_ne (tgt := 165) hx hb dX6_years_157 (by decide) (fun c_157 => ?_) (fun c_157 => ?_)
                  · have c_157 := (not_congr (cv_eq_in (by omega))).mp c_157
                    refine lv_iload hx hb dX6_years_165 (lv_at hl 4 rfl) ?_
                    refine lv_iconst (v := (nI (1))) hx hb dX6_years_167 (by decide) ?_
                    refine lv_icmp_ne (tgt := 175) hx hb dX6_years_168 (by decide) (fun c_168 => ?_) (fun c_168 => ?_)
                    · have c_168 := (not_congr (cv_eq_nn (by omega) (by omega))).mp c_168
                      refine lv_iconst (v := (nI (0))) hx hb dX6_years_175 (by decide) ?_
                      exact wr_iret (nI (pn draft L), frm28, size28, own44, isYear44, isNext44) hx hb hr hlocks (by unfold aYears; rw [if_pos cA, if_neg e2, if_neg (by omega), if_neg (by omega), if_neg (by omega), e0, e1, ← e3, if_neg c_168]) (fun t ht => show va_P g.1 vwCl (wM g trace value draft (nI (L)) (nI (nv)) letter long1 feet sort order left opn own44 other pick (nI (pn draft L)) frm28 size28 isYear44 isNext44 ways nextWays) t.heap by rw [ht]; exact hP) hS dX6_years_176
                    · have c_168 := (cv_eq_nn (by omega) (by omega)).mp c_168
                      refine lv_iconst (v := (nI (1))) hx hb dX6_years_171 (by decide) ?_
                      refine lv_goto (tgt := 176) hx hb dX6_years_172 (by decide) ?_
                      exact wr_iret (nI (pn draft L), frm28, size28, own44, isYear44, isNext44) hx hb hr hlocks (by unfold aYears; rw [if_pos cA, if_neg e2, if_neg (by omega), if_neg (by omega), if_neg (by omega), e0, e1, ← e3, if_pos c_168]) (fun t ht => show va_P g.1 vwCl (wM g trace value draft (nI (L)) (nI (nv)) letter long1 feet sort order left opn own44 other pick (nI (pn draft L)) frm28 size28 isYear44 isNext44 ways nextWays) t.heap by rw [ht]; exact hP) hS dX6_years_176
                  · have c_157 := (cv_eq_in (by omega)).mp c_157
                    refine lv_iload hx hb dX6_years_160 (lv_at hl 6 rfl) ?_
                    refine lv_goto (tgt := 176) hx hb dX6_years_162 (by decide) ?_
                    exact wr_iret (nI (pn draft L), frm28, size28, own44, isYear44, isNext44) hx hb hr hlocks (by unfold aYears; rw [if_pos cA, if_neg e2, if_neg (by omega), if_neg (by omega), if_pos (by omega), e0, e1, e3]) (fun t ht => show va_P g.1 vwCl (wM g trace value draft (nI (L)) (nI (nv)) letter long1 feet sort order left opn own44 other pick (nI (pn draft L)) frm28 size28 isYear44 isNext44 ways nextWays) t.heap by rw [ht]; exact hP) hS dX6_years_176
                · have c_147 := (cv_eq_in (by omega)).mp c_147
                  refine lv_iload hx hb dX6_years_150 (lv_at hl 5 rfl) ?_
                  refine lv_goto (tgt := 176) hx hb dX6_years_152 (by decide) ?_
                  exact wr_iret (nI (pn draft L), frm28, size28, own44, isYear44, isNext44) hx hb hr hlocks (by unfold aYears; rw [if_pos cA, if_neg e2, if_neg (by omega), if_pos (by omega), e0, e1, e3]) (fun t ht => show va_P g.1 vwCl (wM g trace value draft (nI (L)) (nI (nv)) letter long1 feet sort order left opn own44 other pick (nI (pn draft L)) frm28 size28 isYear44 isNext44 ways nextWays) t.heap by rw [ht]; exact hP) hS dX6_years_176
              · have c_137 := (cz_eq_i).mp c_137
                refine lv_iload hx hb dX6_years_140 (lv_at hl 4 rfl) ?_
                refine lv_goto (tgt := 176) hx hb dX6_years_142 (by decide) ?_
                exact wr_iret (nI (pn draft L), frm28, size28, own44, isYear44, isNext44) hx hb hr hlocks (by unfold aYears; rw [if_pos cA, if_neg e2, if_pos (by omega), e0, e1, e3]) (fun t ht => show va_P g.1 vwCl (wM g trace value draft (nI (L)) (nI (nv)) letter long1 feet sort order left opn own44 other pick (nI (pn draft L)) frm28 size28 isYear44 isNext44 ways nextWays) t.heap by rw [ht]; exact hP) hS dX6_years_176
            · have c_66 := (not_congr (cv_lt_nn (by omega) (by omega))).mp c_66
              have b0 : bz (isYear44 (yy)) (yr draft letter long1 sort order (owf value letter long1 n9 k9) L nv (pn draft L) 0 yy) := by have := hyM 0 yy (by omega) (by omega); rw [show 3001 * 0 + yy = yy by omega] at this; exact this
              have b1 : bz (isYear44 (3001 + yy)) (yr draft letter long1 sort order (owf value letter long1 n9 k9) L nv (pn draft L) 1 yy) := by have := hyM 1 yy (by omega) (by omega); rw [show 3001 * 1 + yy = 3001 + yy by omega] at this; exact this
              have b2 : bz (isYear44 (6002 + yy)) (yr draft letter long1 sort order (owf value letter long1 n9 k9) L nv (pn draft L) 2 yy) := by have := hyM 2 yy (by omega) (by omega); rw [show 3001 * 2 + yy = 6002 + yy by omega] at this; exact this
              refine lv_aload_n hx hb dX6_years_69 rfl (lv_at hl 0 rfl) ?_
              refine an_get (ci := 6) (v := .ref (g.2.2 15)) (C := RX6) (T := TX6) (N := 23) hx hb hts iw_X6_years_X6 hown hK hP 0 rfl rfl 19 (by decide) (hts _ fl_X6_years_54) rfl dX6_years_70 ?_
              refine lv_iload hx hb dX6_years_73 (lv_at hl 7 rfl) ?_
              refine an_zald (f := isYear44) hx hb hK hP 15 2 rfl rfl (by decide) (by omega) dX6_years_75 ?_
              refine lv_if_ne (tgt := 107) hx hb dX6_years_76 (by decide) (fun c_76 => ?_) (fun c_76 => ?_)
              · have c_76 := (not_congr (cz_eq_i)).mp c_76
                have hQ : (yq draft letter long1 sort order (owf value letter long1 n9 k9) L nv (pn draft L)) yy := Or.inl (bz_t b0 c_76)
                refine lv_iinc (v := (nI (ycn (yq draft letter long1 sort order (owf value letter long1 n9 k9) L nv (pn draft L)) (yy + 1)))) (lv' := [(4, .int (nI (ycn (yq draft letter long1 sort order (owf value letter long1 n9 k9) L nv (pn draft L)) (yy + 1)))), (0, .ref (g.2.2 0)), (1, .int (nI (n9))), (2, .int (nI (k9))), (3, .int (what)), (5, .int (yfi (yq draft letter long1 sort order (owf value letter long1 n9 k9) L nv (pn draft L)) yy)), (6, .int (yla (yq draft letter long1 sort order (owf value letter long1 n9 k9) L nv (pn draft L)) yy)), (7, .int (nI (yy)))]) hx hb dX6_years_107 hl (k := 4) rfl ((nI_add _ 1).trans (congrArg nI (ycn_y hQ))) (by decide) rfl (fun ls hl => ?_)
                refine lv_iload hx hb dX6_years_110 (lv_at hl 5 rfl) ?_
                refine lv_bipush (v := ((-9 : Int32))) hx hb dX6_years_112 (by decide) ?_
                refine lv_icmp_ne (tgt := 122) hx hb dX6_years_114 (by decide) (fun c_114 => ?_) (fun c_114 => ?_)
                · have c_114 := (not_congr (cv_eq_ii )).mp c_114
                  refine lv_iload hx hb dX6_years_122 (lv_at hl 5 rfl) ?_
                  refine ln_toi (y := (yfi (yq draft letter long1 sort order (owf value letter long1 n9 k9) L nv (pn draft L)) (yy + 1))) (yfi_o hQ c_114) ?_
                  refine lv_istore (lv' := [(5, .int (yfi (yq draft letter long1 sort order (owf value letter long1 n9 k9) L nv (pn draft L)) (yy + 1))), (4, .int (nI (ycn (yq draft letter long1 sort order (owf value letter long1 n9 k9) L nv (pn draft L)) (yy + 1)))), (0, .ref (g.2.2 0)), (1, .int (nI (n9))), (2, .int (nI (k9))), (3, .int (what)), (6, .int (yla (yq draft letter long1 sort order (owf value letter long1 n9 k9) L nv (pn draft L)) yy)), (7, .int (nI (yy)))]) hx hb dX6_years_124 hl (by decide) rfl (fun ls hl => ?_)
                  refine lv_iload hx hb dX6_years_126 (lv_at hl 7 rfl) ?_
                  refine ln_toi (y := (yla (yq draft letter long1 sort order (owf value letter long1 n9 k9) L nv (pn draft L)) (yy + 1))) (yla_y hQ) ?_
                  refine lv_istore (lv' := [(6, .int (yla (yq draft letter long1 sort order (owf value letter long1 n9 k9) L nv (pn draft L)) (yy + 1))), (5, .int (yfi (yq draft letter long1 sort order (owf value letter long1 n9 k9) L nv (pn draft L)) (yy + 1))), (4, .int (nI (ycn (yq draft letter long1 sort order (owf value letter long1 n9 k9) L nv (pn draft L)) (yy + 1)))), (0, .ref (g.2.2 0)), (1, .int (nI (n9))), (2, .int (nI (k9))), (3, .int (what)), (7, .int (nI (yy)))]) hx hb dX6_years_128 hl (by decide) rfl (fun ls hl => ?_)
                  refine lv_iinc (v := (nI (yy + 1))) (lv' := [(7, .int (nI (yy + 1))), (6, .int (yla (yq draft letter long1 sort order (owf value letter long1 n9 k9) L nv (pn draft L)) (yy + 1))), (5, .int (yfi (yq draft letter long1 sort order (owf value letter long1 n9 k9) L nv (pn draft L)) (yy + 1))), (4, .int (nI (ycn (yq draft letter long1 sort order (owf value letter long1 n9 k9) L nv (pn draft L)) (yy + 1)))), (0, .ref (g.2.2 0)), (1, .int (nI (n9))), (2, .int (nI (k9))), (3, .int (what))]) hx hb dX6_years_130 hl (k := 7) rfl (nI_add _ 1) (by decide) rfl (fun ls hl => ?_)
                  refine lv_goto (tgt := 61) hx hb dX6_years_133 (by decide) ?_
                  exact ih_61 (yy + 1) (by omega) (by omega) _ _ hP hS ls (lv_sub hl [4, 5, 6, 7, 3, 2, 1, 0] rfl)
                · have c_114 := (cv_eq_ii ).mp c_114
                  refine lv_iload hx hb dX6_years_117 (lv_at hl 7 rfl) ?_
                  refine ln_toi (y := (yfi (yq draft letter long1 sort order (owf value letter long1 n9 k9) L nv (pn draft L)) (yy + 1))) (yfi_f hQ c_114) ?_
                  refine lv_goto (tgt := 124) hx hb dX6_years_119 (by decide) ?_
                  refine lv_istore (lv' := [(5, .int (yfi (yq draft letter long1 sort order (owf value letter long1 n9 k9) L nv (pn draft L)) (yy + 1))), (4, .int (nI (ycn (yq draft letter long1 sort order (owf value letter long1 n9 k9) L nv (pn draft L)) (yy + 1)))), (0, .ref (g.2.2 0)), (1, .int (nI (n9))), (2, .int (nI (k9))), (3, .int (what)), (6, .int (yla (yq draft letter long1 sort order (owf value letter long1 n9 k9) L nv (pn draft L)) yy)), (7, .int (nI (yy)))]) hx hb dX6_years_124 hl (by decide) rfl (fun ls hl => ?_)
                  refine lv_iload hx hb dX6_years_126 (lv_at hl 7 rfl) ?_
                  refine ln_toi (y := (yla (yq draft letter long1 sort order (owf value letter long1 n9 k9) L nv (pn draft L)) (yy + 1))) (yla_y hQ) ?_
                  refine lv_istore (lv' := [(6, .int (yla (yq draft letter long1 sort order (owf value letter long1 n9 k9) L nv (pn draft L)) (yy + 1))), (5, .int (yfi (yq draft letter long1 sort order (owf value letter long1 n9 k9) L nv (pn draft L)) (yy + 1))), (4, .int (nI (ycn (yq draft letter long1 sort order (owf value letter long1 n9 k9) L nv (pn draft L)) (yy + 1)))), (0, .ref (g.2.2 0)), (1, .int (nI (n9))), (2, .int (nI (k9))), (3, .int (what)), (7, .int (nI (yy)))]) hx hb dX6_years_128 hl (by decide) rfl (fun ls hl => ?_)
                  refine lv_iinc (v := (nI (yy + 1))) (lv' := [(7, .int (nI (yy + 1))), (6, .int (yla (yq draft letter long1 sort order (owf value letter long1 n9 k9) L nv (pn draft L)) (yy + 1))), (5, .int (yfi (yq draft letter long1 sort order (owf value letter long1 n9 k9) L nv (pn draft L)) (yy + 1))), (4, .int (nI (ycn (yq draft letter long1 sort order (owf value letter long1 n9 k9) L nv (pn draft L)) (yy + 1)))), (0, .ref (g.2.2 0)), (1, .int (nI (n9))), (2, .int (nI (k9))), (3, .int (what))]) hx hb dX6_years_130 hl (k := 7) rfl (nI_add _ 1) (by decide) rfl (fun ls hl => ?_)
                  refine lv_goto (tgt := 61) hx hb dX6_years_133 (by decide) ?_
                  exact ih_61 (yy + 1) (by omega) (by omega) _ _ hP hS ls (lv_sub hl [4, 5, 6, 7, 3, 2, 1, 0] rfl)
              · have c_76 := (cz_eq_i).mp c_76
                refine lv_aload_n hx hb dX6_years_79 rfl (lv_at hl 0 rfl) ?_
                refine an_get (ci := 6) (v := .ref (g.2.2 15)) (C := RX6) (T := TX6) (N := 23) hx hb hts iw_X6_years_X6 hown hK hP 0 rfl rfl 19 (by decide) (hts _ fl_X6_years_54) rfl dX6_years_80 ?_
                refine lv_sipush (v := (nI (3001))) hx hb dX6_years_83 (by decide) ?_
                refine lv_iload hx hb dX6_years_86 (lv_at hl 7 rfl) ?_
                refine ln_iadd hx hb dX6_years_88 ?_
                refine an_zald (f := isYear44) hx hb hK hP 15 2 rfl rfl (by decide) (by omega) dX6_years_89 ?_
                refine lv_if_ne (tgt := 107) hx hb dX6_years_90 (by decide) (fun c_90 => ?_) (fun c_90 => ?_)
                · have c_90 := (not_congr (cz_eq_i)).mp c_90
                  have hQ : (yq draft letter long1 sort order (owf value letter long1 n9 k9) L nv (pn draft L)) yy := Or.inr (Or.inl (bz_t b1 c_90))
                  refine lv_iinc (v := (nI (ycn (yq draft letter long1 sort order (owf value letter long1 n9 k9) L nv (pn draft L)) (yy + 1)))) (lv' := [(4, .int (nI (ycn (yq draft letter long1 sort order (owf value letter long1 n9 k9) L nv (pn draft L)) (yy + 1)))), (0, .ref (g.2.2 0)), (1, .int (nI (n9))), (2, .int (nI (k9))), (3, .int (what)), (5, .int (yfi (yq draft letter long1 sort order (owf value letter long1 n9 k9) L nv (pn draft L)) yy)), (6, .int (yla (yq draft letter long1 sort order (owf value letter long1 n9 k9) L nv (pn draft L)) yy)), (7, .int (nI (yy)))]) hx hb dX6_years_107 hl (k := 4) rfl ((nI_add _ 1).trans (congrArg nI (ycn_y hQ))) (by decide) rfl (fun ls hl => ?_)
                  refine lv_iload hx hb dX6_years_110 (lv_at hl 5 rfl) ?_
                  refine lv_bipush (v := ((-9 : Int32))) hx hb dX6_years_112 (by decide) ?_
                  refine lv_icmp_ne (tgt := 122) hx hb dX6_years_114 (by decide) (fun c_114 => ?_) (fun c_114 => ?_)
                  · have c_114 := (not_congr (cv_eq_ii )).mp c_114
                    refine lv_iload hx hb dX6_years_122 (lv_at hl 5 rfl) ?_
                    refine ln_toi (y := (yfi (yq draft letter long1 sort order (owf value letter long1 n9 k9) L nv (pn draft L)) (yy + 1))) (yfi_o hQ c_114) ?_
                    refine lv_istore (lv' := [(5, .int (yfi (yq draft letter long1 sort order (owf value letter long1 n9 k9) L nv (pn draft L)) (yy + 1))), (4, .int (nI (ycn (yq draft letter long1 sort order (owf value letter long1 n9 k9) L nv (pn draft L)) (yy + 1)))), (0, .ref (g.2.2 0)), (1, .int (nI (n9))), (2, .int (nI (k9))), (3, .int (what)), (6, .int (yla (yq draft letter long1 sort order (owf value letter long1 n9 k9) L nv (pn draft L)) yy)), (7, .int (nI (yy)))]) hx hb dX6_years_124 hl (by decide) rfl (fun ls hl => ?_)
                    refine lv_iload hx hb dX6_years_126 (lv_at hl 7 rfl) ?_
                    refine ln_toi (y := (yla (yq draft letter long1 sort order (owf value letter long1 n9 k9) L nv (pn draft L)) (yy + 1))) (yla_y hQ) ?_
                    refine lv_istore (lv' := [(6, .int (yla (yq draft letter long1 sort order (owf value letter long1 n9 k9) L nv (pn draft L)) (yy + 1))), (5, .int (yfi (yq draft letter long1 sort order (owf value letter long1 n9 k9) L nv (pn draft L)) (yy + 1))), (4, .int (nI (ycn (yq draft letter long1 sort order (owf value letter long1 n9 k9) L nv (pn draft L)) (yy + 1)))), (0, .ref (g.2.2 0)), (1, .int (nI (n9))), (2, .int (nI (k9))), (3, .int (what)), (7, .int (nI (yy)))]) hx hb dX6_years_128 hl (by decide) rfl (fun ls hl => ?_)
                    refine lv_iinc (v := (nI (yy + 1))) (lv' := [(7, .int (nI (yy + 1))), (6, .int (yla (yq draft letter long1 sort order (owf value letter long1 n9 k9) L nv (pn draft L)) (yy + 1))), (5, .int (yfi (yq draft letter long1 sort order (owf value letter long1 n9 k9) L nv (pn draft L)) (yy + 1))), (4, .int (nI (ycn (yq draft letter long1 sort order (owf value letter long1 n9 k9) L nv (pn draft L)) (yy + 1)))), (0, .ref (g.2.2 0)), (1, .int (nI (n9))), (2, .int (nI (k9))), (3, .int (what))]) hx hb dX6_years_130 hl (k := 7) rfl (nI_add _ 1) (by decide) rfl (fun ls hl => ?_)
                    refine lv_goto (tgt := 61) hx hb dX6_years_133 (by decide) ?_
                    exact ih_61 (yy + 1) (by omega) (by omega) _ _ hP hS ls (lv_sub hl [4, 5, 6, 7, 3, 2, 1, 0] rfl)
                  · have c_114 := (cv_eq_ii ).mp c_114
                    refine lv_iload hx hb dX6_years_117 (lv_at hl 7 rfl) ?_
                    refine ln_toi (y := (yfi (yq draft letter long1 sort order (owf value letter long1 n9 k9) L nv (pn draft L)) (yy + 1))) (yfi_f hQ c_114) ?_
                    refine lv_goto (tgt := 124) hx hb dX6_years_119 (by decide) ?_
                    refine lv_istore (lv' := [(5, .int (yfi (yq draft letter long1 sort order (owf value letter long1 n9 k9) L nv (pn draft L)) (yy + 1))), (4, .int (nI (ycn (yq draft letter long1 sort order (owf value letter long1 n9 k9) L nv (pn draft L)) (yy + 1)))), (0, .ref (g.2.2 0)), (1, .int (nI (n9))), (2, .int (nI (k9))), (3, .int (what)), (6, .int (yla (yq draft letter long1 sort order (owf value letter long1 n9 k9) L nv (pn draft L)) yy)), (7, .int (nI (yy)))]) hx hb dX6_years_124 hl (by decide) rfl (fun ls hl => ?_)
                    refine lv_iload hx hb dX6_years_126 (lv_at hl 7 rfl) ?_
                    refine ln_toi (y := (yla (yq draft letter long1 sort order (owf value letter long1 n9 k9) L nv (pn draft L)) (yy + 1))) (yla_y hQ) ?_
                    refine lv_istore (lv' := [(6, .int (yla (yq draft letter long1 sort order (owf value letter long1 n9 k9) L nv (pn draft L)) (yy + 1))), (5, .int (yfi (yq draft letter long1 sort order (owf value letter long1 n9 k9) L nv (pn draft L)) (yy + 1))), (4, .int (nI (ycn (yq draft letter long1 sort order (owf value letter long1 n9 k9) L nv (pn draft L)) (yy + 1)))), (0, .ref (g.2.2 0)), (1, .int (nI (n9))), (2, .int (nI (k9))), (3, .int (what)), (7, .int (nI (yy)))]) hx hb dX6_years_128 hl (by decide) rfl (fun ls hl => ?_)
                    refine lv_iinc (v := (nI (yy + 1))) (lv' := [(7, .int (nI (yy + 1))), (6, .int (yla (yq draft letter long1 sort order (owf value letter long1 n9 k9) L nv (pn draft L)) (yy + 1))), (5, .int (yfi (yq draft letter long1 sort order (owf value letter long1 n9 k9) L nv (pn draft L)) (yy + 1))), (4, .int (nI (ycn (yq draft letter long1 sort order (owf value letter long1 n9 k9) L nv (pn draft L)) (yy + 1)))), (0, .ref (g.2.2 0)), (1, .int (nI (n9))), (2, .int (nI (k9))), (3, .int (what))]) hx hb dX6_years_130 hl (k := 7) rfl (nI_add _ 1) (by decide) rfl (fun ls hl => ?_)
                    refine lv_goto (tgt := 61) hx hb dX6_years_133 (by decide) ?_
                    exact ih_61 (yy + 1) (by omega) (by omega) _ _ hP hS ls (lv_sub hl [4, 5, 6, 7, 3, 2, 1, 0] rfl)
                · have c_90 := (cz_eq_i).mp c_90
                  refine lv_aload_n hx hb dX6_years_93 rfl (lv_at hl 0 rfl) ?_
                  refine an_get (ci := 6) (v := .ref (g.2.2 15)) (C := RX6) (T := TX6) (N := 23) hx hb hts iw_X6_years_X6 hown hK hP 0 rfl rfl 19 (by decide) (hts _ fl_X6_years_54) rfl dX6_years_94 ?_
                  refine lv_sipush (v := (nI (6002))) hx hb dX6_years_97 (by decide) ?_
                  refine lv_iload hx hb dX6_years_100 (lv_at hl 7 rfl) ?_
                  refine ln_iadd hx hb dX6_years_102 ?_
                  refine an_zald (f := isYear44) hx hb hK hP 15 2 rfl rfl (by decide) (by omega) dX6_years_103 ?_
                  refine lv_if_eq (tgt := 130) hx hb dX6_years_104 (by decide) (fun c_104 => ?_) (fun c_104 => ?_)
                  · have c_104 := (cz_eq_i).mp c_104
                    have hQ : ¬ (yq draft letter long1 sort order (owf value letter long1 n9 k9) L nv (pn draft L)) yy := fun z => z.elim (bz_f b0 (by omega)) (fun z => z.elim (bz_f b1 (by omega)) (bz_f b2 c_104))
                    refine lv_iinc (v := (nI (yy + 1))) (lv' := [(7, .int (nI (yy + 1))), (0, .ref (g.2.2 0)), (1, .int (nI (n9))), (2, .int (nI (k9))), (3, .int (what)), (4, .int (nI (ycn (yq draft letter long1 sort order (owf value letter long1 n9 k9) L nv (pn draft L)) yy))), (5, .int (yfi (yq draft letter long1 sort order (owf value letter long1 n9 k9) L nv (pn draft L)) yy)), (6, .int (yla (yq draft letter long1 sort order (owf value letter long1 n9 k9) L nv (pn draft L)) yy))]) hx hb dX6_years_130 hl (k := 7) rfl (nI_add _ 1) (by decide) rfl (fun ls hl => ?_)
                    refine lv_goto (tgt := 61) hx hb dX6_years_133 (by decide) ?_
                    rw [ycn_n hQ, yfi_n hQ, yla_n hQ] at hl
                    exact ih_61 (yy + 1) (by omega) (by omega) _ _ hP hS ls (lv_sub hl [1, 2, 3, 4, 5, 6, 7, 0] rfl)
                  · have c_104 := (not_congr (cz_eq_i)).mp c_104
                    have hQ : (yq draft letter long1 sort order (owf value letter long1 n9 k9) L nv (pn draft L)) yy := Or.inr (Or.inr (bz_t b2 c_104))
                    refine lv_iinc (v := (nI (ycn (yq draft letter long1 sort order (owf value letter long1 n9 k9) L nv (pn draft L)) (yy + 1)))) (lv' := [(4, .int (nI (ycn (yq draft letter long1 sort order (owf value letter long1 n9 k9) L nv (pn draft L)) (yy + 1)))), (0, .ref (g.2.2 0)), (1, .int (nI (n9))), (2, .int (nI (k9))), (3, .int (what)), (5, .int (yfi (yq draft letter long1 sort order (owf value letter long1 n9 k9) L nv (pn draft L)) yy)), (6, .int (yla (yq draft letter long1 sort order (owf value letter long1 n9 k9) L nv (pn draft L)) yy)), (7, .int (nI (yy)))]) hx hb dX6_years_107 hl (k := 4) rfl ((nI_add _ 1).trans (congrArg nI (ycn_y hQ))) (by decide) rfl (fun ls hl => ?_)
                    refine lv_iload hx hb dX6_years_110 (lv_at hl 5 rfl) ?_
                    refine lv_bipush (v := ((-9 : Int32))) hx hb dX6_years_112 (by decide) ?_
                    refine lv_icmp_ne (tgt := 122) hx hb dX6_years_114 (by decide) (fun c_114 => ?_) (fun c_114 => ?_)
                    · have c_114 := (not_congr (cv_eq_ii )).mp c_114
                      refine lv_iload hx hb dX6_years_122 (lv_at hl 5 rfl) ?_
                      refine ln_toi (y := (yfi (yq draft letter long1 sort order (owf value letter long1 n9 k9) L nv (pn draft L)) (yy + 1))) (yfi_o hQ c_114) ?_
                      refine lv_istore (lv' := [(5, .int (yfi (yq draft letter long1 sort order (owf value letter long1 n9 k9) L nv (pn draft L)) (yy + 1))), (4, .int (nI (ycn (yq draft letter long1 sort order (owf value letter long1 n9 k9) L nv (pn draft L)) (yy + 1)))), (0, .ref (g.2.2 0)), (1, .int (nI (n9))), (2, .int (nI (k9))), (3, .int (what)), (6, .int (yla (yq draft letter long1 sort order (owf value letter long1 n9 k9) L nv (pn draft L)) yy)), (7, .int (nI (yy)))]) hx hb dX6_years_124 hl (by decide) rfl (fun ls hl => ?_)
                      refine lv_iload hx hb dX6_years_126 (lv_at hl 7 rfl) ?_
                      refine ln_toi (y := (yla (yq draft letter long1 sort order (owf value letter long1 n9 k9) L nv (pn draft L)) (yy + 1))) (yla_y hQ) ?_
                      refine lv_istore (lv' := [(6, .int (yla (yq draft letter long1 sort order (owf value letter long1 n9 k9) L nv (pn draft L)) (yy + 1))), (5, .int (yfi (yq draft letter long1 sort order (owf value letter long1 n9 k9) L nv (pn draft L)) (yy + 1))), (4, .int (nI (ycn (yq draft letter long1 sort order (owf value letter long1 n9 k9) L nv (pn draft L)) (yy + 1)))), (0, .ref (g.2.2 0)), (1, .int (nI (n9))), (2, .int (nI (k9))), (3, .int (what)), (7, .int (nI (yy)))]) hx hb dX6_years_128 hl (by decide) rfl (fun ls hl => ?_)
                      refine lv_iinc (v := (nI (yy + 1))) (lv' := [(7, .int (nI (yy + 1))), (6, .int (yla (yq draft letter long1 sort order (owf value letter long1 n9 k9) L nv (pn draft L)) (yy + 1))), (5, .int (yfi (yq draft letter long1 sort order (owf value letter long1 n9 k9) L nv (pn draft L)) (yy + 1))), (4, .int (nI (ycn (yq draft letter long1 sort order (owf value letter long1 n9 k9) L nv (pn draft L)) (yy + 1)))), (0, .ref (g.2.2 0)), (1, .int (nI (n9))), (2, .int (nI (k9))), (3, .int (what))]) hx hb dX6_years_130 hl (k := 7) rfl (nI_add _ 1) (by decide) rfl (fun ls hl => ?_)
                      refine lv_goto (tgt := 61) hx hb dX6_years_133 (by decide) ?_
                      exact ih_61 (yy + 1) (by omega) (by omega) _ _ hP hS ls (lv_sub hl [4, 5, 6, 7, 3, 2, 1, 0] rfl)
                    · have c_114 := (cv_eq_ii ).mp c_114
                      refine lv_iload hx hb dX6_years_117 (lv_at hl 7 rfl) ?_
                      refine ln_toi (y := (yfi (yq draft letter long1 sort order (owf value letter long1 n9 k9) L nv (pn draft L)) (yy + 1))) (yfi_f hQ c_114) ?_
                      refine lv_goto (tgt := 124) hx hb dX6_years_119 (by decide) ?_
                      refine lv_istore (lv' := [(5, .int (yfi (yq draft letter long1 sort order (owf value letter long1 n9 k9) L nv (pn draft L)) (yy + 1))), (4, .int (nI (ycn (yq draft letter long1 sort order (owf value letter long1 n9 k9) L nv (pn draft L)) (yy + 1)))), (0, .ref (g.2.2 0)), (1, .int (nI (n9))), (2, .int (nI (k9))), (3, .int (what)), (6, .int (yla (yq draft letter long1 sort order (owf value letter long1 n9 k9) L nv (pn draft L)) yy)), (7, .int (nI (yy)))]) hx hb dX6_years_124 hl (by decide) rfl (fun ls hl => ?_)
                      refine lv_iload hx hb dX6_years_126 (lv_at hl 7 rfl) ?_
                      refine ln_toi (y := (yla (yq draft letter long1 sort order (owf value letter long1 n9 k9) L nv (pn draft L)) (yy + 1))) (yla_y hQ) ?_
                      refine lv_istore (lv' := [(6, .int (yla (yq draft letter long1 sort order (owf value letter long1 n9 k9) L nv (pn draft L)) (yy + 1))), (5, .int (yfi (yq draft letter long1 sort order (owf value letter long1 n9 k9) L nv (pn draft L)) (yy + 1))), (4, .int (nI (ycn (yq draft letter long1 sort order (owf value letter long1 n9 k9) L nv (pn draft L)) (yy + 1)))), (0, .ref (g.2.2 0)), (1, .int (nI (n9))), (2, .int (nI (k9))), (3, .int (what)), (7, .int (nI (yy)))]) hx hb dX6_years_128 hl (by decide) rfl (fun ls hl => ?_)
                      refine lv_iinc (v := (nI (yy + 1))) (lv' := [(7, .int (nI (yy + 1))), (6, .int (yla (yq draft letter long1 sort order (owf value letter long1 n9 k9) L nv (pn draft L)) (yy + 1))), (5, .int (yfi (yq draft letter long1 sort order (owf value letter long1 n9 k9) L nv (pn draft L)) (yy + 1))), (4, .int (nI (ycn (yq draft letter long1 sort order (owf value letter long1 n9 k9) L nv (pn draft L)) (yy + 1)))), (0, .ref (g.2.2 0)), (1, .int (nI (n9))), (2, .int (nI (k9))), (3, .int (what))]) hx hb dX6_years_130 hl (k := 7) rfl (nI_add _ 1) (by decide) rfl (fun ls hl => ?_)
                      refine lv_goto (tgt := 61) hx hb dX6_years_133 (by decide) ?_
                      exact ih_61 (yy + 1) (by omega) (by omega) _ _ hP hS ls (lv_sub hl [4, 5, 6, 7, 3, 2, 1, 0] rfl)
        exact lp_61 (3001 - (0) + 1) 0 (Nat.zero_le _) (Nat.lt_succ_self _) _ _ hP hS ls (lv_sub hl [4, 5, 6, 7, 3, 2, 1, 0] rfl)
      · have c_35 := (cz_eq_n (by omega)).mp c_35
        refine lv_bipush (v := ((-2 : Int32))) hx hb dX6_years_38 (by decide) ?_
        exact wr_iret (nI (pn draft L), frm28, size28, own, isYear, isNext) hx hb hr hlocks (by unfold aYears; rw [if_pos ⟨c_10, by omega⟩, if_pos (by omega)]) (fun t ht => show va_P g.1 vwCl (wM g trace value draft (nI (L)) (nI (nv)) letter long1 feet sort order left opn own other pick (nI (pn draft L)) frm28 size28 isYear isNext ways nextWays) t.heap by rw [ht]; exact hP) hS dX6_years_40
    · have c_22 := if_n c_22
      refine lv_iconst (v := ((-1 : Int32))) hx hb dX6_years_25 (by decide) ?_
      exact wr_iret (parts, frm, size, own, isYear, isNext) hx hb hr hlocks (by unfold aYears; rw [if_neg (fun z => by first | exact c_10 z.1 | exact c_22 z.2 | omega)]) (fun t ht => show va_P g.1 vwCl (wM g trace value draft (nI (L)) (nI (nv)) letter long1 feet sort order left opn own other pick parts frm size isYear isNext ways nextWays) t.heap by rw [ht]; exact hP) hS dX6_years_26
