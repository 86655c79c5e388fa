abbrev lok (ft y counting custom : Int32) : Prop := (1 ≤ ft.toInt ∧ ft.toInt ≤ 8) ∧ (0 ≤ y.toInt ∧ y.toInt ≤ 3000) ∧ (0 ≤ counting.toInt ∧ counting.toInt < 3) ∧ (0 ≤ custom.toInt ∧ custom.toInt < 4)
theorem iw_X6_works_X6 : ∀ w ∈ u_ws RX6 TX6 23, w ∈ wsX6_works := by decide +kernel
theorem fl_X6_works_22 : Cond.fieldLink RX6 22 (TX6 8).1 (TX6 8).2.1 (TX6 8).2.2.1 ∈ wsX6_works := by decide +kernel
theorem fl_X6_works_25 : Cond.fieldLink RX6 25 (TX6 9).1 (TX6 9).2.1 (TX6 9).2.2.1 ∈ wsX6_works := by decide +kernel
theorem fl_X6_works_32 : Cond.fieldLink RX6 32 (TX6 11).1 (TX6 11).2.1 (TX6 11).2.2.1 ∈ wsX6_works := by decide +kernel
theorem fl_X6_works_39 : Cond.fieldLink RX6 39 (TX6 13).1 (TX6 13).2.1 (TX6 13).2.2.1 ∈ wsX6_works := by decide +kernel
theorem fl_X6_works_124 : Cond.fieldLink RX6 124 (TX6 5).1 (TX6 5).2.1 (TX6 5).2.2.1 ∈ wsX6_works := by decide +kernel
set_option maxHeartbeats 200000 in
set_option maxRecDepth 100000 in
theorem c_X6_works (l : Launch) {g : GW} {trace : Int64} {value : Nat → Int32} {draft : Nat → Int32} {typed : Int32} {nv : Nat} {letter : Nat → Int32} {long1 : Nat → Int32} {feet : Nat → Int32} {sort : Nat → Int32} {order : Nat → Int32} {left : Nat → Int64} {opn : Nat → Int64} {own : Nat → Int32} {other : Nat → Int32} {pick : Nat → Int32} {parts : Int32} {frm : Nat → Int32} {size : Nat → Int32} {isYear : Nat → Int32} {isNext : Nat → Int32} {ways : Nat → Int64} {nextWays : Nat → Int64} {sz : Nat} (ft : Nat) (y : Nat) (counting : Nat) (custom : Nat) (hft : ft ≤ 8) (hy : y ≤ 3000) (hc : counting < 3) (hk : custom < 4) (hnv : nv ≤ 10) (hle : okV long1 nv 1 8) (hfe : okV feet nv 1 3) (hso : okV sort nv 0 2) (hva : okV value 104 0 1000) (hd : dW 19 g.2.2) : Met l yX6_works wsX6_works ({ frames := 5, cells := 0, slots := 0, locals := 114 }) (va_Pc ([.ref (g.2.2 0), .int (nI (ft)), .int (nI (y)), .int (nI (counting)), .int (nI (custom))]) (qW g (wM g trace value draft typed (nI (nv)) letter long1 feet sort order left opn own other pick parts frm size isYear isNext ways nextWays) sz)) (va_Qv (fun (z : (Nat → Int32) × (Nat → Int64)) => (∀ v, v < nv → z.1 v = vsm value letter long1 counting custom v) ∧ ∀ f s t, f ≤ ft → s < 4 → t ≤ y → z.2 (3001 * (4 * f + s) + t) = lN (lwy feet sort order (owf value letter long1 counting custom) nv f s t)) (fun (z : (Nat → Int32) × (Nat → Int64)) (t : State) => va_P g.1 vwCl (wM g trace value draft typed (nI (nv)) letter long1 feet sort order (z.2) opn (z.1) other pick parts frm size isYear isNext ways nextWays) t.heap) (aW 19 g.2.2 sz)) 0 0 (aW 19 g.2.2 sz) := by
  refine Met.ofW (cc := cX6_works) (maxL := 11) (ret := none) (by decide) rfl ?_
  intro p e s m args below meth c s₁ B hml hv
  obtain ⟨rfl, hsz9, hP, hK, hN⟩ := hv
  subst hsz9
  have hx := B.exec
  have hb := B.bytes
  have hr := B.returns
  have hts := atoms_spec (ws := wsX6_works) B.pre
  have hown : s.vm.findClass RX6 = some m.cls := findClass_of_methodNamed B.named
  have hlocks := B.notSynchronized
  have hS : va_S (aW 19 g.2.2 s.heap.size) s.heap s.heap [] := va_S.rf
  have hl := lv_entry ([.ref (g.2.2 0), .int (nI (ft)), .int (nI (y)), .int (nI (counting)), .int (nI (custom))]) (n := 11) (Nat.le_of_ble_eq_true rfl)
  rw [lg_entry_eq]
  generalize (lg_sl ([.ref (g.2.2 0), .int (nI (ft)), .int (nI (y)), .int (nI (counting)), .int (nI (custom))]) ++ List.replicate (11 - (lg_sl ([.ref (g.2.2 0), .int (nI (ft)), .int (nI (y)), .int (nI (counting)), .int (nI (custom))])).length) Slot.unset).toArray = ls at hl ⊢
  have hl : lv_has ls 11 [(0, .ref (g.2.2 0)), (1, .int (nI (ft))), (2, .int (nI (y))), (3, .int (nI (counting))), (4, .int (nI (custom)))] := hl
  refine lv_aload_n hx hb dX6_works_0 rfl (lv_at hl 0 rfl) ?_
  refine lv_iload_n hx hb dX6_works_1 rfl (lv_at hl 3 rfl) ?_
  refine lv_iload hx hb dX6_works_2 (lv_at hl 4 rfl) ?_
  refine lv_aload_n hx hb dX6_works_4 rfl (lv_at hl 0 rfl) ?_
  refine an_get (ci := 6) (v := .ref (g.2.2 10)) (C := RX6) (T := TX6) (N := 23) hx hb hts iw_X6_works_X6 hown hK hP 0 rfl rfl 13 (by decide) (hts _ fl_X6_works_39) rfl dX6_works_5 ?_
  refine wr_callv (w := (fun (z : (Nat → Int32)) => (wM g trace value draft typed (nI (nv)) letter long1 feet sort order left opn z other pick parts frm size isYear isNext ways nextWays))) (va_runV (As := [.int (nI (counting)), .int (nI (custom)), .ref (g.2.2 10)]) (rest := []) ⟨hx, hb, hml, hown, hts⟩ (c_X6_owns_own l (g := g) (trace := trace) (value := value) (draft := draft) (typed := typed) (nv := nv) (letter := letter) (long1 := long1) (feet := feet) (sort := sort) (order := order) (left := left) (opn := opn) (own := own) (other := other) (pick := pick) (parts := parts) (frm := frm) (size := size) (isYear := isYear) (isNext := isNext) (ways := ways) (nextWays := nextWays) (sz := _) (counting) (custom) hc hk hnv hle hd) (cwV 3 hts gX6_works_X6_owns rfl rfl rfl (by decide +kernel) ⟨Nat.le_of_ble_eq_true rfl, Nat.le_of_ble_eq_true rfl⟩) (pre_V qW_bl (va_recv hK hP (ci := 6) (q0 := 0) rfl rfl) (fun U hU hW => ⟨by rw [hU], pW_of hP hK hN hU hW⟩)) rfl rfl hl.1 rfl (lv_room (Nat.le_of_ble_eq_true rfl)) dX6_works_8 ⟨Nat.zero_le _, Nat.zero_le _⟩) hS (fun own8 H locs hp8 hP hS => ?_)
  have hP : va_P g.1 vwCl (wM g trace value draft typed (nI (nv)) letter long1 feet sort order left opn own8 other pick parts frm size isYear isNext ways nextWays) H := hP
  refine lv_iconst (v := (nI (0))) hx hb dX6_works_11 (by decide) ?_
  refine lv_istore (lv' := [(5, .int (nI (0))), (0, .ref (g.2.2 0)), (1, .int (nI (ft))), (2, .int (nI (y))), (3, .int (nI (counting))), (4, .int (nI (custom)))]) hx hb dX6_works_12 hl (by decide) rfl (fun ls hl => ?_)
  have lp_14 : ∀ (n : Nat) (f : Nat) (b : Nat → Int64), (f ≤ ft + 1) → (∀ f2 s t, f2 < f → s < 4 → t ≤ y → b (3001 * (4 * f2 + s) + t) = lN (lwy feet sort order (owf value letter long1 counting custom) nv f2 s t)) → ft + 1 - f < n → ∀ (H : Heap) (locs : List Loc), va_P g.1 vwCl (wM g trace value draft typed (nI (nv)) letter long1 feet sort order b opn own8 other pick parts frm size isYear isNext ways nextWays) H → va_S (aW 19 g.2.2 s.heap.size) s.heap H locs → ∀ (ls : Array Slot), lv_has ls 11 [(0, .ref (g.2.2 0)), (1, .int (nI (ft))), (2, .int (nI (y))), (3, .int (nI (counting))), (4, .int (nI (custom))), (5, .int (nI (f)))] → W p l e (headSpec wsX6_works ({ frames := 5, cells := 0, slots := 0, locals := 114 })).room s m (([.ref (g.2.2 0), .int (nI (ft)), .int (nI (y)), .int (nI (counting)), .int (nI (custom))] : List Value).toArray) below meth c H locs 0 0 (MQ below (va_Qv (fun (z : (Nat → Int32) × (Nat → Int64)) => (∀ v, v < nv → z.1 v = vsm value letter long1 counting custom v) ∧ ∀ f s t, f ≤ ft → s < 4 → t ≤ y → z.2 (3001 * (4 * f + s) + t) = lN (lwy feet sort order (owf value letter long1 counting custom) nv f s t)) (fun (z : (Nat → Int32) × (Nat → Int64)) (t : State) => va_P g.1 vwCl (wM g trace value draft typed (nI (nv)) letter long1 feet sort order (z.2) opn (z.1) other pick parts frm size isYear isNext ways nextWays) t.heap) (aW 19 g.2.2 s.heap.size)) (([.ref (g.2.2 0), .int (nI (ft)), .int (nI (y)), .int (nI (counting)), .int (nI (custom))] : List Value).toArray) s 0 0 (aW 19 g.2.2 s.heap.size)) (F0 m 14 ls []) := by
    intro n
    induction n with
    | zero => intro f b hf2 hb2 hm; exact absurd hm (Nat.not_lt_zero _)
    | succ n ih_14 =>
      intro f b hf2 hb2 hm_14 H locs hP hS ls hl
      refine lv_iload hx hb dX6_works_14 (lv_at hl 5 rfl) ?_
      refine lv_iload_n hx hb dX6_works_16 rfl (lv_at hl 1 rfl) ?_
      refine lv_icmp_gt (tgt := 186) hx hb dX6_works_17 (by decide) (fun c_17 => ?_) (fun c_17 => ?_)
      · have c_17 := (cv_lt_nn (by omega) (by omega)).mp c_17
        exact wr_vret (own8, b) hx hb hr hlocks (⟨hp8, fun f2 s t h1 h2 h3 => hb2 f2 s t (by omega) h2 h3⟩) (fun t ht => show va_P g.1 vwCl (wM g trace value draft typed (nI (nv)) letter long1 feet sort order b opn own8 other pick parts frm size isYear isNext ways nextWays) t.heap by rw [ht]; exact hP) hS dX6_works_186
      · have c_17 := (not_congr (cv_lt_nn (by omega) (by omega))).mp c_17
        refine lv_iconst (v := (nI (0))) hx hb dX6_works_20 (by decide) ?_
        refine lv_istore (lv' := [(6, .int (nI (0))), (0, .ref (g.2.2 0)), (1, .int (nI (ft))), (2, .int (nI (y))), (3, .int (nI (counting))), (4, .int (nI (custom))), (5, .int (nI (f)))]) hx hb dX6_works_21 hl (by decide) rfl (fun ls hl => ?_)
        have lp_23 : ∀ (n : Nat) (s2 : Nat) (b2 : Nat → Int64), (s2 ≤ 4) → (∀ f2 s t, f2 < f → s < 4 → t ≤ y → b2 (3001 * (4 * f2 + s) + t) = lN (lwy feet sort order (owf value letter long1 counting custom) nv f2 s t)) → (∀ s t, s < s2 → t ≤ y → b2 (3001 * (4 * f + s) + t) = lN (lwy feet sort order (owf value letter long1 counting custom) nv f s t)) → 4 - s2 < n → ∀ (H : Heap) (locs : List Loc), va_P g.1 vwCl (wM g trace value draft typed (nI (nv)) letter long1 feet sort order b2 opn own8 other pick parts frm size isYear isNext ways nextWays) H → va_S (aW 19 g.2.2 s.heap.size) s.heap H locs → ∀ (ls : Array Slot), lv_has ls 11 [(0, .ref (g.2.2 0)), (1, .int (nI (ft))), (2, .int (nI (y))), (3, .int (nI (counting))), (4, .int (nI (custom))), (5, .int (nI (f))), (6, .int (nI (s2)))] → W p l e (headSpec wsX6_works ({ frames := 5, cells := 0, slots := 0, locals := 114 })).room s m (([.ref (g.2.2 0), .int (nI (ft)), .int (nI (y)), .int (nI (counting)), .int (nI (custom))] : List Value).toArray) below meth c H locs 0 0 (MQ below (va_Qv (fun (z : (Nat → Int32) × (Nat → Int64)) => (∀ v, v < nv → z.1 v = vsm value letter long1 counting custom v) ∧ ∀ f s t, f ≤ ft → s < 4 → t ≤ y → z.2 (3001 * (4 * f + s) + t) = lN (lwy feet sort order (owf value letter long1 counting custom) nv f s t)) (fun (z : (Nat → Int32) × (Nat → Int64)) (t : State) => va_P g.1 vwCl (wM g trace value draft typed (nI (nv)) letter long1 feet sort order (z.2) opn (z.1) other pick parts frm size isYear isNext ways nextWays) t.heap) (aW 19 g.2.2 s.heap.size)) (([.ref (g.2.2 0), .int (nI (ft)), .int (nI (y)), .int (nI (counting)), .int (nI (custom))] : List Value).toArray) s 0 0 (aW 19 g.2.2 s.heap.size)) (F0 m 23 ls []) := by
          intro n
          induction n with
          | zero => intro s2 b2 hs hb3 hb4 hm; exact absurd hm (Nat.not_lt_zero _)
          | succ n ih_23 =>
            intro s2 b2 hs hb3 hb4 hm_23 H locs hP hS ls hl
            refine lv_iload hx hb dX6_works_23 (lv_at hl 6 rfl) ?_
            refine lv_iconst (v := (nI (4))) hx hb dX6_works_25 (by decide) ?_
            refine lv_icmp_ge (tgt := 180) hx hb dX6_works_26 (by decide) (fun c_26 => ?_) (fun c_26 => ?_)
            · have c_26 := (cv_le_nn (by omega) (by omega)).mp c_26
              refine lv_iinc (v := (nI (f + 1))) (lv' := [(5, .int (nI (f + 1))), (0, .ref (g.2.2 0)), (1, .int (nI (ft))), (2, .int (nI (y))), (3, .int (nI (counting))), (4, .int (nI (custom))), (6, .int (nI (s2)))]) hx hb dX6_works_180 hl (k := 5) rfl (nI_add _ 1) (by decide) rfl (fun ls hl => ?_)
              refine lv_goto (tgt := 14) hx hb dX6_works_183 (by decide) ?_
              exact ih_14 (f + 1) b2 (by omega) (fun f2 s t h1 h2 h3 => by by_cases e : f2 = f; (subst e; exact hb4 s t (by omega) h3); exact hb3 f2 s t (by omega) h2 h3) (by omega) _ _ hP hS ls (lv_sub hl [1, 2, 3, 4, 5, 0] rfl)
            · have c_26 := (not_congr (cv_le_nn (by omega) (by omega))).mp c_26
              refine lv_iconst (v := (nI (0))) hx hb dX6_works_29 (by decide) ?_
              refine lv_istore (lv' := [(7, .int (nI (0))), (0, .ref (g.2.2 0)), (1, .int (nI (ft))), (2, .int (nI (y))), (3, .int (nI (counting))), (4, .int (nI (custom))), (5, .int (nI (f))), (6, .int (nI (s2)))]) hx hb dX6_works_30 hl (by decide) rfl (fun ls hl => ?_)
              have lp_32 : ∀ (n : Nat) (t2 : Nat) (b3 : Nat → Int64), (t2 ≤ y + 1) → (∀ f2 s t, f2 < f → s < 4 → t ≤ y → b3 (3001 * (4 * f2 + s) + t) = lN (lwy feet sort order (owf value letter long1 counting custom) nv f2 s t)) → (∀ s t, s < s2 → t ≤ y → b3 (3001 * (4 * f + s) + t) = lN (lwy feet sort order (owf value letter long1 counting custom) nv f s t)) → (∀ t, t < t2 → b3 (3001 * (4 * f + s2) + t) = lN (lwy feet sort order (owf value letter long1 counting custom) nv f s2 t)) → y + 1 - t2 < n → ∀ (H : Heap) (locs : List Loc), va_P g.1 vwCl (wM g trace value draft typed (nI (nv)) letter long1 feet sort order b3 opn own8 other pick parts frm size isYear isNext ways nextWays) H → va_S (aW 19 g.2.2 s.heap.size) s.heap H locs → ∀ (ls : Array Slot), lv_has ls 11 [(0, .ref (g.2.2 0)), (1, .int (nI (ft))), (2, .int (nI (y))), (3, .int (nI (counting))), (4, .int (nI (custom))), (5, .int (nI (f))), (6, .int (nI (s2))), (7, .int (nI (t2)))] → W p l e (headSpec wsX6_works ({ frames := 5, cells := 0, slots := 0, locals := 114 })).room s m (([.ref (g.2.2 0), .int (nI (ft)), .int (nI (y)), .int (nI (counting)), .int (nI (custom))] : List Value).toArray) below meth c H locs 0 0 (MQ below (va_Qv (fun (z : (Nat → Int32) × (Nat → Int64)) => (∀ v, v < nv → z.1 v = vsm value letter long1 counting custom v) ∧ ∀ f s t, f ≤ ft → s < 4 → t ≤ y → z.2 (3001 * (4 * f + s) + t) = lN (lwy feet sort order (owf value letter long1 counting custom) nv f s t)) (fun (z : (Nat → Int32) × (Nat → Int64)) (t : State) => va_P g.1 vwCl (wM g trace value draft typed (nI (nv)) letter long1 feet sort order (z.2) opn (z.1) other pick parts frm size isYear isNext ways nextWays) t.heap) (aW 19 g.2.2 s.heap.size)) (([.ref (g.2.2 0), .int (nI (ft)), .int (nI (y)), .int (nI (counting)), .int (nI (custom))] : List Value).toArray) s 0 0 (aW 19 g.2.2 s.heap.size)) (F0 m 32 ls []) := by
                intro n
                induction n with
                | zero => intro t2 b3 ht hb5 hb6 hb7 hm; exact absurd hm (Nat.not_lt_zero _)
                | succ n ih_32 =>
                  intro t2 b3 ht hb5 hb6 hb7 hm_32 H locs hP hS ls hl
                  refine lv_iload hx hb dX6_works_32 (lv_at hl 7 rfl) ?_
                  refine lv_iload_n hx hb dX6_works_34 rfl (lv_at hl 2 rfl) ?_
                  refine lv_icmp_gt (tgt := 174) hx hb dX6_works_35 (by decide) (fun c_35 => ?_) (fun c_35 => ?_)
                  · have c_35 := (cv_lt_nn (by omega) (by omega)).mp c_35
                    refine lv_iinc (v := (nI (s2 + 1))) (lv' := [(6, .int (nI (s2 + 1))), (0, .ref (g.2.2 0)), (1, .int (nI (ft))), (2, .int (nI (y))), (3, .int (nI (counting))), (4, .int (nI (custom))), (5, .int (nI (f))), (7, .int (nI (t2)))]) hx hb dX6_works_174 hl (k := 6) rfl (nI_add _ 1) (by decide) rfl (fun ls hl => ?_)
                    refine lv_goto (tgt := 23) hx hb dX6_works_177 (by decide) ?_
                    exact ih_23 (s2 + 1) b3 (by omega) (hb5) (fun s t h1 h2 => by by_cases e : s = s2; (subst e; exact hb7 t (by omega)); exact hb6 s t (by omega) h2) (by omega) _ _ hP hS ls (lv_sub hl [1, 2, 3, 4, 5, 6, 0] rfl)
                  · have c_35 := (not_congr (cv_lt_nn (by omega) (by omega))).mp c_35
                    refine lv_iload hx hb dX6_works_38 (lv_at hl 5 rfl) ?_
                    refine lv_if_ne (tgt := 52) hx hb dX6_works_40 (by decide) (fun c_40 => ?_) (fun c_40 => ?_)
                    · have c_40 := (not_congr (cz_eq_n (by omega))).mp c_40
                      refine lv_lconst (v := (lN (0))) hx hb dX6_works_52 (by decide) ?_
                      refine ln_tol (y := (lN ((if f = 0 ∧ t2 = 0 then 1 else 0) + lsq feet sort order (owf value letter long1 counting custom) (lwy feet sort order (owf value letter long1 counting custom) nv) f s2 t2 0))) (by rw [if_neg (by omega)]; rfl) ?_
                      refine lv_lstore (lv' := [(8, .long (lN ((if f = 0 ∧ t2 = 0 then 1 else 0) + lsq feet sort order (owf value letter long1 counting custom) (lwy feet sort order (owf value letter long1 counting custom) nv) f s2 t2 0))), (0, .ref (g.2.2 0)), (1, .int (nI (ft))), (2, .int (nI (y))), (3, .int (nI (counting))), (4, .int (nI (custom))), (5, .int (nI (f))), (6, .int (nI (s2))), (7, .int (nI (t2)))]) hx hb dX6_works_53 hl (by decide) rfl (fun ls hl => ?_)
                      refine lv_iconst (v := (nI (0))) hx hb dX6_works_55 (by decide) ?_
                      refine lv_istore (lv' := [(10, .int (nI (0))), (8, .long (lN ((if f = 0 ∧ t2 = 0 then 1 else 0) + lsq feet sort order (owf value letter long1 counting custom) (lwy feet sort order (owf value letter long1 counting custom) nv) f s2 t2 0))), (0, .ref (g.2.2 0)), (1, .int (nI (ft))), (2, .int (nI (y))), (3, .int (nI (counting))), (4, .int (nI (custom))), (5, .int (nI (f))), (6, .int (nI (s2))), (7, .int (nI (t2)))]) hx hb dX6_works_56 hl (by decide) rfl (fun ls hl => ?_)
                      have lp_58 : ∀ (n : Nat) (i : Nat), (i ≤ nv) → nv - i < n → ∀ (H : Heap) (locs : List Loc), va_P g.1 vwCl (wM g trace value draft typed (nI (nv)) letter long1 feet sort order b3 opn own8 other pick parts frm size isYear isNext ways nextWays) H → va_S (aW 19 g.2.2 s.heap.size) s.heap H locs → ∀ (ls : Array Slot), lv_has ls 11 [(0, .ref (g.2.2 0)), (1, .int (nI (ft))), (2, .int (nI (y))), (3, .int (nI (counting))), (4, .int (nI (custom))), (5, .int (nI (f))), (6, .int (nI (s2))), (7, .int (nI (t2))), (8, .long (lN ((if f = 0 ∧ t2 = 0 then 1 else 0) + lsq feet sort order (owf value letter long1 counting custom) (lwy feet sort order (owf value letter long1 counting custom) nv) f s2 t2 i))), (10, .int (nI (i)))] → W p l e (headSpec wsX6_works ({ frames := 5, cells := 0, slots := 0, locals := 114 })).room s m (([.ref (g.2.2 0), .int (nI (ft)), .int (nI (y)), .int (nI (counting)), .int (nI (custom))] : List Value).toArray) below meth c H locs 0 0 (MQ below (va_Qv (fun (z : (Nat → Int32) × (Nat → Int64)) => (∀ v, v < nv → z.1 v = vsm value letter long1 counting custom v) ∧ ∀ f s t, f ≤ ft → s < 4 → t ≤ y → z.2 (3001 * (4 * f + s) + t) = lN (lwy feet sort order (owf value letter long1 counting custom) nv f s t)) (fun (z : (Nat → Int32) × (Nat → Int64)) (t : State) => va_P g.1 vwCl (wM g trace value draft typed (nI (nv)) letter long1 feet sort order (z.2) opn (z.1) other pick parts frm size isYear isNext ways nextWays) t.heap) (aW 19 g.2.2 s.heap.size)) (([.ref (g.2.2 0), .int (nI (ft)), .int (nI (y)), .int (nI (counting)), .int (nI (custom))] : List Value).toArray) s 0 0 (aW 19 g.2.2 s.heap.size)) (F0 m 58 ls []) := by
                        intro n
                        induction n with
                        | zero => intro i hi hm; exact absurd hm (Nat.not_lt_zero _)
                        | succ n ih_58 =>
                          intro i hi hm_58 H locs hP hS ls hl
                          refine lv_iload hx hb dX6_works_58 (lv_at hl 9 rfl) ?_
                          refine lv_aload_n hx hb dX6_works_60 rfl (lv_at hl 0 rfl) ?_
                          refine an_get (ci := 6) (v := .int (nI (nv))) (C := RX6) (T := TX6) (N := 23) hx hb hts iw_X6_works_X6 hown hK hP 0 rfl rfl 5 (by decide) (hts _ fl_X6_works_124) rfl dX6_works_61 ?_
                          refine lv_icmp_ge (tgt := 152) hx hb dX6_works_64 (by decide) (fun c_64 => ?_) (fun c_64 => ?_)
                          · have c_64 := (cv_le_nn (by omega) (by omega)).mp c_64
                            refine lv_aload_n hx hb dX6_works_152 rfl (lv_at hl 0 rfl) ?_
                            refine an_get (ci := 6) (v := .ref (g.2.2 8)) (C := RX6) (T := TX6) (N := 23) hx hb hts iw_X6_works_X6 hown hK hP 0 rfl rfl 11 (by decide) (hts _ fl_X6_works_32) rfl dX6_works_153 ?_
                            refine lv_iload hx hb dX6_works_156 (lv_at hl 5 rfl) ?_
                            refine lv_iload hx hb dX6_works_158 (lv_at hl 6 rfl) ?_
                            refine lv_iload hx hb dX6_works_160 (lv_at hl 7 rfl) ?_
                            refine ro_call (va_runS (As := [.int (nI (f)), .int (nI (s2)), .int (nI (t2))]) (rest := [.ref (g.2.2 8)]) ⟨hx, hb, hml, hown, hts⟩ (c_X6_place l (f) (s2) (t2)) (va_cwS 3 hts gX6_works_X6_place rfl rfl rfl (by decide +kernel) ⟨Nat.le_of_ble_eq_true rfl, Nat.le_of_ble_eq_true rfl⟩) pre_0 rfl rfl hl.1 rfl (lv_room (Nat.le_of_ble_eq_true rfl)) dX6_works_162 ⟨Nat.zero_le _, Nat.zero_le _⟩) ?_
                            refine lv_lload hx hb dX6_works_165 (lv_at hl 8 rfl) ?_
                            refine an_last (f := b3) (ws' := (wM g trace value draft typed (nI (nv)) letter long1 feet sort order (vp_updL (b3) (3001 * (4 * (f) + (s2)) + (t2)) (lN ((if f = 0 ∧ t2 = 0 then 1 else 0) + lsq feet sort order (owf value letter long1 counting custom) (lwy feet sort order (owf value letter long1 counting custom) nv) f s2 t2 i))) opn own8 other pick parts frm size isYear isNext ways nextWays)) hx hb hK hP (wM_D hd) hS 8 1 rfl rfl (by decide) (by omega) rfl dX6_works_167 (fun H locs hP hS => ?_)
                            refine lv_iinc (v := (nI (t2 + 1))) (lv' := [(7, .int (nI (t2 + 1))), (0, .ref (g.2.2 0)), (1, .int (nI (ft))), (2, .int (nI (y))), (3, .int (nI (counting))), (4, .int (nI (custom))), (5, .int (nI (f))), (6, .int (nI (s2))), (8, .long (lN ((if f = 0 ∧ t2 = 0 then 1 else 0) + lsq feet sort order (owf value letter long1 counting custom) (lwy feet sort order (owf value letter long1 counting custom) nv) f s2 t2 i))), (10, .int (nI (i)))]) hx hb dX6_works_168 hl (k := 7) rfl (nI_add _ 1) (by decide) rfl (fun ls hl => ?_)
                            refine lv_goto (tgt := 32) hx hb dX6_works_171 (by decide) ?_
                            rw [show i = nv by omega, lwy_t hfe] at hP
                            exact ih_32 (t2 + 1) (vp_updL b3 (3001 * (4 * f + s2) + t2) (lN (lwy feet sort order (owf value letter long1 counting custom) nv f s2 t2))) (by omega) (fun f2 s t h1 h2 h3 => by rw [pk_uLn (by omega)]; exact hb5 f2 s t h1 h2 h3) (fun s t h1 h2 => by rw [pk_uLn (by omega)]; exact hb6 s t h1 h2) (fun t h1 => by by_cases e : t = t2; (subst e; exact pk_uLs); rw [pk_uLn (by omega)]; exact hb7 t (by omega)) (by omega) _ _ hP hS ls (lv_sub hl [1, 2, 3, 4, 5, 6, 7, 0] rfl)
                          · have c_64 := (not_congr (cv_le_nn (by omega) (by omega))).mp c_64
                            refine lv_lload hx hb dX6_works_67 (lv_at hl 8 rfl) ?_
                            refine lv_aload_n hx hb dX6_works_69 rfl (lv_at hl 0 rfl) ?_
                            refine an_get (ci := 6) (v := .ref (g.2.2 5)) (C := RX6) (T := TX6) (N := 23) hx hb hts iw_X6_works_X6 hown hK hP 0 rfl rfl 8 (by decide) (hts _ fl_X6_works_22) rfl dX6_works_70 ?_
                            refine lv_iload hx hb dX6_works_73 (lv_at hl 9 rfl) ?_
                            have hf9 := hfe i (by omega)
                            have hs9 := hso i (by omega)
                            have ho9 := vsm_ok (tx := letter) (n := counting) hva hk hle (show i < nv by omega)
                            refine an_iald (f := feet) hx hb hK hP 5 0 rfl rfl (by decide) (by omega) dX6_works_75 ?_
                            refine ln_toi (y := (nI (tn (feet i)))) (hf9.1) ?_
                            refine lv_iload hx hb dX6_works_76 (lv_at hl 5 rfl) ?_
                            refine lv_icmp_gt (tgt := 142) hx hb dX6_works_78 (by decide) (fun c_78 => ?_) (fun c_78 => ?_)
                            · have c_78 := (cv_lt_nn (by omega) (by omega)).mp c_78
                              refine lv_lconst (v := (lN (0))) hx hb dX6_works_142 (by decide) ?_
                              refine ln_ladd hx hb dX6_works_143 ?_
                              refine lv_lstore (lv' := [(8, .long (lN (((if f = 0 ∧ t2 = 0 then 1 else 0) + lsq feet sort order (owf value letter long1 counting custom) (lwy feet sort order (owf value letter long1 counting custom) nv) f s2 t2 i) + 0))), (0, .ref (g.2.2 0)), (1, .int (nI (ft))), (2, .int (nI (y))), (3, .int (nI (counting))), (4, .int (nI (custom))), (5, .int (nI (f))), (6, .int (nI (s2))), (7, .int (nI (t2))), (10, .int (nI (i)))]) hx hb dX6_works_144 hl (by decide) rfl (fun ls hl => ?_)
                              refine lv_iinc (v := (nI (i + 1))) (lv' := [(10, .int (nI (i + 1))), (8, .long (lN (((if f = 0 ∧ t2 = 0 then 1 else 0) + lsq feet sort order (owf value letter long1 counting custom) (lwy feet sort order (owf value letter long1 counting custom) nv) f s2 t2 i) + 0))), (0, .ref (g.2.2 0)), (1, .int (nI (ft))), (2, .int (nI (y))), (3, .int (nI (counting))), (4, .int (nI (custom))), (5, .int (nI (f))), (6, .int (nI (s2))), (7, .int (nI (t2)))]) hx hb dX6_works_146 hl (k := 9) rfl (nI_add _ 1) (by decide) rfl (fun ls hl => ?_)
                              refine lv_goto (tgt := 58) hx hb dX6_works_149 (by decide) ?_
                              rw [lsq_nn (w := lwy feet sort order (owf value letter long1 counting custom) nv) (fe := feet) (so := sort) (nx := order) (ow := (owf value letter long1 counting custom)) (f := f) (s := s2) (t := t2) (v := i) (fun z => absurd z.1 (by omega))] at hl
                              exact ih_58 (i + 1) (by omega) (by omega) _ _ hP hS ls (lv_sub hl [2, 3, 4, 5, 6, 7, 8, 9, 1, 0] rfl)
                            · have c_78 := (not_congr (cv_lt_nn (by omega) (by omega))).mp c_78
                              refine lv_aload_n hx hb dX6_works_81 rfl (lv_at hl 0 rfl) ?_
                              refine an_get (ci := 6) (v := .ref (g.2.2 10)) (C := RX6) (T := TX6) (N := 23) hx hb hts iw_X6_works_X6 hown hK hP 0 rfl rfl 13 (by decide) (hts _ fl_X6_works_39) rfl dX6_works_82 ?_
                              refine lv_iload hx hb dX6_works_85 (lv_at hl 9 rfl) ?_
                              refine an_iald (f := own8) hx hb hK hP 10 0 rfl rfl (by decide) (by omega) dX6_works_87 ?_
                              refine ln_toi (y := (nI (tn (vsm value letter long1 counting custom i)))) ((hp8 i (by omega)).trans ho9.1) ?_
                              refine lv_iload hx hb dX6_works_88 (lv_at hl 7 rfl) ?_
                              refine lv_icmp_gt (tgt := 142) hx hb dX6_works_90 (by decide) (fun c_90 => ?_) (fun c_90 => ?_)
                              · have c_90 := (cv_lt_nn (by omega) (by omega)).mp c_90
                                refine lv_lconst (v := (lN (0))) hx hb dX6_works_142 (by decide) ?_
                                refine ln_ladd hx hb dX6_works_143 ?_
                                refine lv_lstore (lv' := [(8, .long (lN (((if f = 0 ∧ t2 = 0 then 1 else 0) + lsq feet sort order (owf value letter long1 counting custom) (lwy feet sort order (owf value letter long1 counting custom) nv) f s2 t2 i) + 0))), (0, .ref (g.2.2 0)), (1, .int (nI (ft))), (2, .int (nI (y))), (3, .int (nI (counting))), (4, .int (nI (custom))), (5, .int (nI (f))), (6, .int (nI (s2))), (7, .int (nI (t2))), (10, .int (nI (i)))]) hx hb dX6_works_144 hl (by decide) rfl (fun ls hl => ?_)
                                refine lv_iinc (v := (nI (i + 1))) (lv' := [(10, .int (nI (i + 1))), (8, .long (lN (((if f = 0 ∧ t2 = 0 then 1 else 0) + lsq feet sort order (owf value letter long1 counting custom) (lwy feet sort order (owf value letter long1 counting custom) nv) f s2 t2 i) + 0))), (0, .ref (g.2.2 0)), (1, .int (nI (ft))), (2, .int (nI (y))), (3, .int (nI (counting))), (4, .int (nI (custom))), (5, .int (nI (f))), (6, .int (nI (s2))), (7, .int (nI (t2)))]) hx hb dX6_works_146 hl (k := 9) rfl (nI_add _ 1) (by decide) rfl (fun ls hl => ?_)
                                refine lv_goto (tgt := 58) hx hb dX6_works_149 (by decide) ?_
                                rw [lsq_nn (w := lwy feet sort order (owf value letter long1 counting custom) nv) (fe := feet) (so := sort) (nx := order) (ow := (owf value letter long1 counting custom)) (f := f) (s := s2) (t := t2) (v := i) (fun z => absurd z.2.1 (show ¬ tn (vsm value letter long1 counting custom i) ≤ t2 by omega))] at hl
                                exact ih_58 (i + 1) (by omega) (by omega) _ _ hP hS ls (lv_sub hl [2, 3, 4, 5, 6, 7, 8, 9, 1, 0] rfl)
                              · have c_90 := (not_congr (cv_lt_nn (by omega) (by omega))).mp c_90
                                refine lv_aload_n hx hb dX6_works_93 rfl (lv_at hl 0 rfl) ?_
                                refine lv_iload hx hb dX6_works_94 (lv_at hl 6 rfl) ?_
                                refine lv_iload hx hb dX6_works_96 (lv_at hl 9 rfl) ?_
                                refine ro_call (va_runV (As := [.int (nI (s2)), .int (nI (i))]) (rest := [.long (lN ((if f = 0 ∧ t2 = 0 then 1 else 0) + lsq feet sort order (owf value letter long1 counting custom) (lwy feet sort order (owf value letter long1 counting custom) nv) f s2 t2 i))]) ⟨hx, hb, hml, hown, hts⟩ (c_X6_isAfter l (g := g) (trace := trace) (value := value) (draft := draft) (typed := typed) (vocables := nI (nv)) (letter := letter) (long1 := long1) (feet := feet) (sort := sort) (order := order) (left := b3) (opn := opn) (own := own8) (other := other) (pick := pick) (parts := parts) (frm := frm) (size := size) (isYear := isYear) (isNext := isNext) (ways := ways) (nextWays := nextWays) (s2) (i) (by omega) (by omega)) (cwV 2 hts gX6_works_X6_isAfter rfl rfl rfl (by decide +kernel) ⟨Nat.le_of_ble_eq_true rfl, Nat.le_of_ble_eq_true rfl⟩) (pre_V pW_bl (va_recv hK hP (ci := 6) (q0 := 0) rfl rfl) (fun U hU hW => pW_of hP hK hN hU hW)) rfl rfl hl.1 rfl (lv_room (Nat.le_of_ble_eq_true rfl)) dX6_works_98 ⟨Nat.zero_le _, Nat.zero_le _⟩) ?_
                                refine lv_if_eq (tgt := 142) hx hb dX6_works_101 (by decide) (fun c_101 => ?_) (fun c_101 => ?_)
                                · have c_101 := if_n c_101
                                  refine lv_lconst (v := (lN (0))) hx hb dX6_works_142 (by decide) ?_
                                  refine ln_ladd hx hb dX6_works_143 ?_
                                  refine lv_lstore (lv' := [(8, .long (lN (((if f = 0 ∧ t2 = 0 then 1 else 0) + lsq feet sort order (owf value letter long1 counting custom) (lwy feet sort order (owf value letter long1 counting custom) nv) f s2 t2 i) + 0))), (0, .ref (g.2.2 0)), (1, .int (nI (ft))), (2, .int (nI (y))), (3, .int (nI (counting))), (4, .int (nI (custom))), (5, .int (nI (f))), (6, .int (nI (s2))), (7, .int (nI (t2))), (10, .int (nI (i)))]) hx hb dX6_works_144 hl (by decide) rfl (fun ls hl => ?_)
                                  refine lv_iinc (v := (nI (i + 1))) (lv' := [(10, .int (nI (i + 1))), (8, .long (lN (((if f = 0 ∧ t2 = 0 then 1 else 0) + lsq feet sort order (owf value letter long1 counting custom) (lwy feet sort order (owf value letter long1 counting custom) nv) f s2 t2 i) + 0))), (0, .ref (g.2.2 0)), (1, .int (nI (ft))), (2, .int (nI (y))), (3, .int (nI (counting))), (4, .int (nI (custom))), (5, .int (nI (f))), (6, .int (nI (s2))), (7, .int (nI (t2)))]) hx hb dX6_works_146 hl (k := 9) rfl (nI_add _ 1) (by decide) rfl (fun ls hl => ?_)
                                  refine lv_goto (tgt := 58) hx hb dX6_works_149 (by decide) ?_
                                  rw [lsq_nn (w := lwy feet sort order (owf value letter long1 counting custom) nv) (fe := feet) (so := sort) (nx := order) (ow := (owf value letter long1 counting custom)) (f := f) (s := s2) (t := t2) (v := i) (fun z => c_101 z.2.2)] at hl
                                  exact ih_58 (i + 1) (by omega) (by omega) _ _ hP hS ls (lv_sub hl [2, 3, 4, 5, 6, 7, 8, 9, 1, 0] rfl)
                                · have c_101 := if_p c_101
                                  refine lv_aload_n hx hb dX6_works_104 rfl (lv_at hl 0 rfl) ?_
                                  refine an_get (ci := 6) (v := .ref (g.2.2 8)) (C := RX6) (T := TX6) (N := 23) hx hb hts iw_X6_works_X6 hown hK hP 0 rfl rfl 11 (by decide) (hts _ fl_X6_works_32) rfl dX6_works_105 ?_
                                  refine lv_iload hx hb dX6_works_108 (lv_at hl 5 rfl) ?_
                                  refine lv_aload_n hx hb dX6_works_110 rfl (lv_at hl 0 rfl) ?_
                                  refine an_get (ci := 6) (v := .ref (g.2.2 5)) (C := RX6) (T := TX6) (N := 23) hx hb hts iw_X6_works_X6 hown hK hP 0 rfl rfl 8 (by decide) (hts _ fl_X6_works_22) rfl dX6_works_111 ?_
                                  refine lv_iload hx hb dX6_works_114 (lv_at hl 9 rfl) ?_
                                  refine an_iald (f := feet) hx hb hK hP 5 0 rfl rfl (by decide) (by omega) dX6_works_116 ?_
                                  refine ln_toi (y := (nI (tn (feet i)))) (hf9.1) ?_
                                  refine ln_isub hx hb (by omega) dX6_works_117 ?_
                                  refine lv_aload_n hx hb dX6_works_118 rfl (lv_at hl 0 rfl) ?_
                                  refine an_get (ci := 6) (v := .ref (g.2.2 6)) (C := RX6) (T := TX6) (N := 23) hx hb hts iw_X6_works_X6 hown hK hP 0 rfl rfl 9 (by decide) (hts _ fl_X6_works_25) rfl dX6_works_119 ?_
                                  refine lv_iload hx hb dX6_works_122 (lv_at hl 9 rfl) ?_
                                  refine an_iald (f := sort) hx hb hK hP 6 0 rfl rfl (by decide) (by omega) dX6_works_124 ?_
                                  refine ln_toi (y := (nI (tn (sort i)))) (hs9.1) ?_
                                  refine lv_iload hx hb dX6_works_125 (lv_at hl 7 rfl) ?_
                                  refine lv_aload_n hx hb dX6_works_127 rfl (lv_at hl 0 rfl) ?_
                                  refine an_get (ci := 6) (v := .ref (g.2.2 10)) (C := RX6) (T := TX6) (N := 23) hx hb hts iw_X6_works_X6 hown hK hP 0 rfl rfl 13 (by decide) (hts _ fl_X6_works_39) rfl dX6_works_128 ?_
                                  refine lv_iload hx hb dX6_works_131 (lv_at hl 9 rfl) ?_
                                  refine an_iald (f := own8) hx hb hK hP 10 0 rfl rfl (by decide) (by omega) dX6_works_133 ?_
                                  refine ln_toi (y := (nI (tn (vsm value letter long1 counting custom i)))) ((hp8 i (by omega)).trans ho9.1) ?_
                                  refine ln_isub hx hb (by omega) dX6_works_134 ?_
                                  refine ro_call (va_runS (As := [.int (nI (f - (tn (feet i)))), .int (nI (tn (sort i))), .int (nI (t2 - (tn (vsm value letter long1 counting custom i))))]) (rest := [.ref (g.2.2 8), .long (lN ((if f = 0 ∧ t2 = 0 then 1 else 0) + lsq feet sort order (owf value letter long1 counting custom) (lwy feet sort order (owf value letter long1 counting custom) nv) f s2 t2 i))]) ⟨hx, hb, hml, hown, hts⟩ (c_X6_place l (f - (tn (feet i))) (tn (sort i)) (t2 - (tn (vsm value letter long1 counting custom i)))) (va_cwS 3 hts gX6_works_X6_place rfl rfl rfl (by decide +kernel) ⟨Nat.le_of_ble_eq_true rfl, Nat.le_of_ble_eq_true rfl⟩) pre_0 rfl rfl hl.1 rfl (lv_room (Nat.le_of_ble_eq_true rfl)) dX6_works_135 ⟨Nat.zero_le _, Nat.zero_le _⟩) ?_
                                  refine an_lald (f := b3) hx hb hK hP 8 1 rfl rfl (by decide) (by omega) dX6_works_138 ?_
                                  refine ln_tol (y := (lN (lwy feet sort order (owf value letter long1 counting custom) nv (f - tn (feet i)) (tn (sort i)) (t2 - tn (vsm value letter long1 counting custom i))))) (hb5 _ _ _ (by omega) (by omega) (by omega)) ?_
                                  refine lv_goto (tgt := 143) hx hb dX6_works_139 (by decide) ?_
                                  refine ln_ladd hx hb dX6_works_143 ?_
                                  refine lv_lstore (lv' := [(8, .long (lN (((if f = 0 ∧ t2 = 0 then 1 else 0) + lsq feet sort order (owf value letter long1 counting custom) (lwy feet sort order (owf value letter long1 counting custom) nv) f s2 t2 i) + (lwy feet sort order (owf value letter long1 counting custom) nv (f - tn (feet i)) (tn (sort i)) (t2 - tn (vsm value letter long1 counting custom i)))))), (0, .ref (g.2.2 0)), (1, .int (nI (ft))), (2, .int (nI (y))), (3, .int (nI (counting))), (4, .int (nI (custom))), (5, .int (nI (f))), (6, .int (nI (s2))), (7, .int (nI (t2))), (10, .int (nI (i)))]) hx hb dX6_works_144 hl (by decide) rfl (fun ls hl => ?_)
                                  refine lv_iinc (v := (nI (i + 1))) (lv' := [(10, .int (nI (i + 1))), (8, .long (lN (((if f = 0 ∧ t2 = 0 then 1 else 0) + lsq feet sort order (owf value letter long1 counting custom) (lwy feet sort order (owf value letter long1 counting custom) nv) f s2 t2 i) + (lwy feet sort order (owf value letter long1 counting custom) nv (f - tn (feet i)) (tn (sort i)) (t2 - tn (vsm value letter long1 counting custom i)))))), (0, .ref (g.2.2 0)), (1, .int (nI (ft))), (2, .int (nI (y))), (3, .int (nI (counting))), (4, .int (nI (custom))), (5, .int (nI (f))), (6, .int (nI (s2))), (7, .int (nI (t2)))]) hx hb dX6_works_146 hl (k := 9) rfl (nI_add _ 1) (by decide) rfl (fun ls hl => ?_)
                                  refine lv_goto (tgt := 58) hx hb dX6_works_149 (by decide) ?_
                                  rw [lsq_yy (w := lwy feet sort order (owf value letter long1 counting custom) nv) (fe := feet) (so := sort) (nx := order) (ow := (owf value letter long1 counting custom)) (f := f) (s := s2) (t := t2) (v := i) (by omega) (show tn (vsm value letter long1 counting custom i) ≤ t2 by omega) c_101] at hl
                                  exact ih_58 (i + 1) (by omega) (by omega) _ _ hP hS ls (lv_sub hl [2, 3, 4, 5, 6, 7, 8, 9, 1, 0] rfl)
                      exact lp_58 (nv - (0) + 1) 0 (Nat.zero_le _) (Nat.lt_succ_self _) _ _ hP hS ls (lv_sub hl [2, 3, 4, 5, 6, 7, 8, 9, 1, 0] rfl)
                    · have c_40 := (cz_eq_n (by omega)).mp c_40
                      refine lv_iload hx hb dX6_works_43 (lv_at hl 7 rfl) ?_
                      refine lv_if_ne (tgt := 52) hx hb dX6_works_45 (by decide) (fun c_45 => ?_) (fun c_45 => ?_)
                      · have c_45 := (not_congr (cz_eq_n (by omega))).mp c_45
                        refine lv_lconst (v := (lN (0))) hx hb dX6_works_52 (by decide) ?_
                        refine ln_tol (y := (lN ((if f = 0 ∧ t2 = 0 then 1 else 0) + lsq feet sort order (owf value letter long1 counting custom) (lwy feet sort order (owf value letter long1 counting custom) nv) f s2 t2 0))) (by rw [if_neg (by omega)]; rfl) ?_
                        refine lv_lstore (lv' := [(8, .long (lN ((if f = 0 ∧ t2 = 0 then 1 else 0) + lsq feet sort order (owf value letter long1 counting custom) (lwy feet sort order (owf value letter long1 counting custom) nv) f s2 t2 0))), (0, .ref (g.2.2 0)), (1, .int (nI (ft))), (2, .int (nI (y))), (3, .int (nI (counting))), (4, .int (nI (custom))), (5, .int (nI (f))), (6, .int (nI (s2))), (7, .int (nI (t2)))]) hx hb dX6_works_53 hl (by decide) rfl (fun ls hl => ?_)
                        refine lv_iconst (v := (nI (0))) hx hb dX6_works_55 (by decide) ?_
                        refine lv_istore (lv' := [(10, .int (nI (0))), (8, .long (lN ((if f = 0 ∧ t2 = 0 then 1 else 0) + lsq feet sort order (owf value letter long1 counting custom) (lwy feet sort order (owf value letter long1 counting custom) nv) f s2 t2 0))), (0, .ref (g.2.2 0)), (1, .int (nI (ft))), (2, .int (nI (y))), (3, .int (nI (counting))), (4, .int (nI (custom))), (5, .int (nI (f))), (6, .int (nI (s2))), (7, .int (nI (t2)))]) hx hb dX6_works_56 hl (by decide) rfl (fun ls hl => ?_)
                        have lp_58 : ∀ (n : Nat) (i : Nat), (i ≤ nv) → nv - i < n → ∀ (H : Heap) (locs : List Loc), va_P g.1 vwCl (wM g trace value draft typed (nI (nv)) letter long1 feet sort order b3 opn own8 other pick parts frm size isYear isNext ways nextWays) H → va_S (aW 19 g.2.2 s.heap.size) s.heap H locs → ∀ (ls : Array Slot), lv_has ls 11 [(0, .ref (g.2.2 0)), (1, .int (nI (ft))), (2, .int (nI (y))), (3, .int (nI (counting))), (4, .int (nI (custom))), (5, .int (nI (f))), (6, .int (nI (s2))), (7, .int (nI (t2))), (8, .long (lN ((if f = 0 ∧ t2 = 0 then 1 else 0) + lsq feet sort order (owf value letter long1 counting custom) (lwy feet sort order (owf value letter long1 counting custom) nv) f s2 t2 i))), (10, .int (nI (i)))] → W p l e (headSpec wsX6_works ({ frames := 5, cells := 0, slots := 0, locals := 114 })).room s m (([.ref (g.2.2 0), .int (nI (ft)), .int (nI (y)), .int (nI (counting)), .int (nI (custom))] : List Value).toArray) below meth c H locs 0 0 (MQ below (va_Qv (fun (z : (Nat → Int32) × (Nat → Int64)) => (∀ v, v < nv → z.1 v = vsm value letter long1 counting custom v) ∧ ∀ f s t, f ≤ ft → s < 4 → t ≤ y → z.2 (3001 * (4 * f + s) + t) = lN (lwy feet sort order (owf value letter long1 counting custom) nv f s t)) (fun (z : (Nat → Int32) × (Nat → Int64)) (t : State) => va_P g.1 vwCl (wM g trace value draft typed (nI (nv)) letter long1 feet sort order (z.2) opn (z.1) other pick parts frm size isYear isNext ways nextWays) t.heap) (aW 19 g.2.2 s.heap.size)) (([.ref (g.2.2 0), .int (nI (ft)), .int (nI (y)), .int (nI (counting)), .int (nI (custom))] : List Value).toArray) s 0 0 (aW 19 g.2.2 s.heap.size)) (F0 m 58 ls []) := by
                          intro n
                          induction n with
                          | zero => intro i hi hm; exact absurd hm (Nat.not_lt_zero _)
                          | succ n ih_58 =>
                            intro i hi hm_58 H locs hP hS ls hl
                            refine lv_iload hx hb dX6_works_58 (lv_at hl 9 rfl) ?_
                            refine lv_aload_n hx hb dX6_works_60 rfl (lv_at hl 0 rfl) ?_
                            refine an_get (ci := 6) (v := .int (nI (nv))) (C := RX6) (T := TX6) (N := 23) hx hb hts iw_X6_works_X6 hown hK hP 0 rfl rfl 5 (by decide) (hts _ fl_X6_works_124) rfl dX6_works_61 ?_
                            refine lv_icmp_ge (tgt := 152) hx hb dX6_works_64 (by decide) (fun c_64 => ?_) (fun c_64 => ?_)
                            · have c_64 := (cv_le_nn (by omega) (by omega)).mp c_64
                              refine lv_aload_n hx hb dX6_works_152 rfl (lv_at hl 0 rfl) ?_
                              refine an_get (ci := 6) (v := .ref (g.2.2 8)) (C := RX6) (T := TX6) (N := 23) hx hb hts iw_X6_works_X6 hown hK hP 0 rfl rfl 11 (by decide) (hts _ fl_X6_works_32) rfl dX6_works_153 ?_
                              refine lv_iload hx hb dX6_works_156 (lv_at hl 5 rfl) ?_
                              refine lv_iload hx hb dX6_works_158 (lv_at hl 6 rfl) ?_
                              refine lv_iload hx hb dX6_works_160 (lv_at hl 7 rfl) ?_
                              refine ro_call (va_runS (As := [.int (nI (f)), .int (nI (s2)), .int (nI (t2))]) (rest := [.ref (g.2.2 8)]) ⟨hx, hb, hml, hown, hts⟩ (c_X6_place l (f) (s2) (t2)) (va_cwS 3 hts gX6_works_X6_place rfl rfl rfl (by decide +kernel) ⟨Nat.le_of_ble_eq_true rfl, Nat.le_of_ble_eq_true rfl⟩) pre_0 rfl rfl hl.1 rfl (lv_room (Nat.le_of_ble_eq_true rfl)) dX6_works_162 ⟨Nat.zero_le _, Nat.zero_le _⟩) ?_
                              refine lv_lload hx hb dX6_works_165 (lv_at hl 8 rfl) ?_
                              refine an_last (f := b3) (ws' := (wM g trace value draft typed (nI (nv)) letter long1 feet sort order (vp_updL (b3) (3001 * (4 * (f) + (s2)) + (t2)) (lN ((if f = 0 ∧ t2 = 0 then 1 else 0) + lsq feet sort order (owf value letter long1 counting custom) (lwy feet sort order (owf value letter long1 counting custom) nv) f s2 t2 i))) opn own8 other pick parts frm size isYear isNext ways nextWays)) hx hb hK hP (wM_D hd) hS 8 1 rfl rfl (by decide) (by omega) rfl dX6_works_167 (fun H locs hP hS => ?_)
                              refine lv_iinc (v := (nI (t2 + 1))) (lv' := [(7, .int (nI (t2 + 1))), (0, .ref (g.2.2 0)), (1, .int (nI (ft))), (2, .int (nI (y))), (3, .int (nI (counting))), (4, .int (nI (custom))), (5, .int (nI (f))), (6, .int (nI (s2))), (8, .long (lN ((if f = 0 ∧ t2 = 0 then 1 else 0) + lsq feet sort order (owf value letter long1 counting custom) (lwy feet sort order (owf value letter long1 counting custom) nv) f s2 t2 i))), (10, .int (nI (i)))]) hx hb dX6_works_168 hl (k := 7) rfl (nI_add _ 1) (by decide) rfl (fun ls hl => ?_)
                              refine lv_goto (tgt := 32) hx hb dX6_works_171 (by decide) ?_
                              rw [show i = nv by omega, lwy_t hfe] at hP
                              exact ih_32 (t2 + 1) (vp_updL b3 (3001 * (4 * f + s2) + t2) (lN (lwy feet sort order (owf value letter long1 counting custom) nv f s2 t2))) (by omega) (fun f2 s t h1 h2 h3 => by rw [pk_uLn (by omega)]; exact hb5 f2 s t h1 h2 h3) (fun s t h1 h2 => by rw [pk_uLn (by omega)]; exact hb6 s t h1 h2) (fun t h1 => by by_cases e : t = t2; (subst e; exact pk_uLs); rw [pk_uLn (by omega)]; exact hb7 t (by omega)) (by omega) _ _ hP hS ls (lv_sub hl [1, 2, 3, 4, 5, 6, 7, 0] rfl)
                            · have c_64 := (not_congr (cv_le_nn (by omega) (by omega))).mp c_64
                              refine lv_lload hx hb dX6_works_67 (lv_at hl 8 rfl) ?_
                              refine lv_aload_n hx hb dX6_works_69 rfl (lv_at hl 0 rfl) ?_
                              refine an_get (ci := 6) (v := .ref (g.2.2 5)) (C := RX6) (T := TX6) (N := 23) hx hb hts iw_X6_works_X6 hown hK hP 0 rfl rfl 8 (by decide) (hts _ fl_X6_works_22) rfl dX6_works_70 ?_
                              refine lv_iload hx hb dX6_works_73 (lv_at hl 9 rfl) ?_
                              have hf9 := hfe i (by omega)
                              have hs9 := hso i (by omega)
                              have ho9 := vsm_ok (tx := letter) (n := counting) hva hk hle (show i < nv by omega)
                              refine an_iald (f := feet) hx hb hK hP 5 0 rfl rfl (by decide) (by omega) dX6_works_75 ?_
                              refine ln_toi (y := (nI (tn (feet i)))) (hf9.1) ?_
                              refine lv_iload hx hb dX6_works_76 (lv_at hl 5 rfl) ?_
                              refine lv_icmp_gt (tgt := 142) hx hb dX6_works_78 (by decide) (fun c_78 => ?_) (fun c_78 => ?_)
                              · have c_78 := (cv_lt_nn (by omega) (by omega)).mp c_78
                                refine lv_lconst (v := (lN (0))) hx hb dX6_works_142 (by decide) ?_
                                refine ln_ladd hx hb dX6_works_143 ?_
                                refine lv_lstore (lv' := [(8, .long (lN (((if f = 0 ∧ t2 = 0 then 1 else 0) + lsq feet sort order (owf value letter long1 counting custom) (lwy feet sort order (owf value letter long1 counting custom) nv) f s2 t2 i) + 0))), (0, .ref (g.2.2 0)), (1, .int (nI (ft))), (2, .int (nI (y))), (3, .int (nI (counting))), (4, .int (nI (custom))), (5, .int (nI (f))), (6, .int (nI (s2))), (7, .int (nI (t2))), (10, .int (nI (i)))]) hx hb dX6_works_144 hl (by decide) rfl (fun ls hl => ?_)
                                refine lv_iinc (v := (nI (i + 1))) (lv' := [(10, .int (nI (i + 1))), (8, .long (lN (((if f = 0 ∧ t2 = 0 then 1 else 0) + lsq feet sort order (owf value letter long1 counting custom) (lwy feet sort order (owf value letter long1 counting custom) nv) f s2 t2 i) + 0))), (0, .ref (g.2.2 0)), (1, .int (nI (ft))), (2, .int (nI (y))), (3, .int (nI (counting))), (4, .int (nI (custom))), (5, .int (nI (f))), (6, .int (nI (s2))), (7, .int (nI (t2)))]) hx hb dX6_works_146 hl (k := 9) rfl (nI_add _ 1) (by decide) rfl (fun ls hl => ?_)
                                refine lv_goto (tgt := 58) hx hb dX6_works_149 (by decide) ?_
                                rw [lsq_nn (w := lwy feet sort order (owf value letter long1 counting custom) nv) (fe := feet) (so := sort) (nx := order) (ow := (owf value letter long1 counting custom)) (f := f) (s := s2) (t := t2) (v := i) (fun z => absurd z.1 (by omega))] at hl
                                exact ih_58 (i + 1) (by omega) (by omega) _ _ hP hS ls (lv_sub hl [2, 3, 4, 5, 6, 7, 8, 9, 1, 0] rfl)
                              · have c_78 := (not_congr (cv_lt_nn (by omega) (by omega))).mp c_78
                                refine lv_aload_n hx hb dX6_works_81 rfl (lv_at hl 0 rfl) ?_
                                refine an_get (ci := 6) (v := .ref (g.2.2 10)) (C := RX6) (T := TX6) (N := 23) hx hb hts iw_X6_works_X6 hown hK hP 0 rfl rfl 13 (by decide) (hts _ fl_X6_works_39) rfl dX6_works_82 ?_
                                refine lv_iload hx hb dX6_works_85 (lv_at hl 9 rfl) ?_
                                refine an_iald (f := own8) hx hb hK hP 10 0 rfl rfl (by decide) (by omega) dX6_works_87 ?_
                                refine ln_toi (y := (nI (tn (vsm value letter long1 counting custom i)))) ((hp8 i (by omega)).trans ho9.1) ?_
                                refine lv_iload hx hb dX6_works_88 (lv_at hl 7 rfl) ?_
                                refine lv_icmp_gt (tgt := 142) hx hb dX6_works_90 (by decide) (fun c_90 => ?_) (fun c_90 => ?_)
                                · have c_90 := (cv_lt_nn (by omega) (by omega)).mp c_90
                                  refine lv_lconst (v := (lN (0))) hx hb dX6_works_142 (by decide) ?_
                                  refine ln_ladd hx hb dX6_works_143 ?_
                                  refine lv_lstore (lv' := [(8, .long (lN (((if f = 0 ∧ t2 = 0 then 1 else 0) + lsq feet sort order (owf value letter long1 counting custom) (lwy feet sort order (owf value letter long1 counting custom) nv) f s2 t2 i) + 0))), (0, .ref (g.2.2 0)), (1, .int (nI (ft))), (2, .int (nI (y))), (3, .int (nI (counting))), (4, .int (nI (custom))), (5, .int (nI (f))), (6, .int (nI (s2))), (7, .int (nI (t2))), (10, .int (nI (i)))]) hx hb dX6_works_144 hl (by decide) rfl (fun ls hl => ?_)
                                  refine lv_iinc (v := (nI (i + 1))) (lv' := [(10, .int (nI (i + 1))), (8, .long (lN (((if f = 0 ∧ t2 = 0 then 1 else 0) + lsq feet sort order (owf value letter long1 counting custom) (lwy feet sort order (owf value letter long1 counting custom) nv) f s2 t2 i) + 0))), (0, .ref (g.2.2 0)), (1, .int (nI (ft))), (2, .int (nI (y))), (3, .int (nI (counting))), (4, .int (nI (custom))), (5, .int (nI (f))), (6, .int (nI (s2))), (7, .int (nI (t2)))]) hx hb dX6_works_146 hl (k := 9) rfl (nI_add _ 1) (by decide) rfl (fun ls hl => ?_)
                                  refine lv_goto (tgt := 58) hx hb dX6_works_149 (by decide) ?_
                                  rw [lsq_nn (w := lwy feet sort order (owf value letter long1 counting custom) nv) (fe := feet) (so := sort) (nx := order) (ow := (owf value letter long1 counting custom)) (f := f) (s := s2) (t := t2) (v := i) (fun z => absurd z.2.1 (show ¬ tn (vsm value letter long1 counting custom i) ≤ t2 by omega))] at hl
                                  exact ih_58 (i + 1) (by omega) (by omega) _ _ hP hS ls (lv_sub hl [2, 3, 4, 5, 6, 7, 8, 9, 1, 0] rfl)
                                · have c_90 := (not_congr (cv_lt_nn (by omega) (by omega))).mp c_90
                                  refine lv_aload_n hx hb dX6_works_93 rfl (lv_at hl 0 rfl) ?_
                                  refine lv_iload hx hb dX6_works_94 (lv_at hl 6 rfl) ?_
                                  refine lv_iload hx hb dX6_works_96 (lv_at hl 9 rfl) ?_
                                  refine ro_call (va_runV (As := [.int (nI (s2)), .int (nI (i))]) (rest := [.long (lN ((if f = 0 ∧ t2 = 0 then 1 else 0) + lsq feet sort order (owf value letter long1 counting custom) (lwy feet sort order (owf value letter long1 counting custom) nv) f s2 t2 i))]) ⟨hx, hb, hml, hown, hts⟩ (c_X6_isAfter l (g := g) (trace := trace) (value := value) (draft := draft) (typed := typed) (vocables := nI (nv)) (letter := letter) (long1 := long1) (feet := feet) (sort := sort) (order := order) (left := b3) (opn := opn) (own := own8) (other := other) (pick := pick) (parts := parts) (frm := frm) (size := size) (isYear := isYear) (isNext := isNext) (ways := ways) (nextWays := nextWays) (s2) (i) (by omega) (by omega)) (cwV 2 hts gX6_works_X6_isAfter rfl rfl rfl (by decide +kernel) ⟨Nat.le_of_ble_eq_true rfl, Nat.le_of_ble_eq_true rfl⟩) (pre_V pW_bl (va_recv hK hP (ci := 6) (q0 := 0) rfl rfl) (fun U hU hW => pW_of hP hK hN hU hW)) rfl rfl hl.1 rfl (lv_room (Nat.le_of_ble_eq_true rfl)) dX6_works_98 ⟨Nat.zero_le _, Nat.zero_le _⟩) ?_
                                  refine lv_if_eq (tgt := 142) hx hb dX6_works_101 (by decide) (fun c_101 => ?_) (fun c_101 => ?_)
                                  · have c_101 := if_n c_101
                                    refine lv_lconst (v := (lN (0))) hx hb dX6_works_142 (by decide) ?_
                                    refine ln_ladd hx hb dX6_works_143 ?_
                                    refine lv_lstore (lv' := [(8, .long (lN (((if f = 0 ∧ t2 = 0 then 1 else 0) + lsq feet sort order (owf value letter long1 counting custom) (lwy feet sort order (owf value letter long1 counting custom) nv) f s2 t2 i) + 0))), (0, .ref (g.2.2 0)), (1, .int (nI (ft))), (2, .int (nI (y))), (3, .int (nI (counting))), (4, .int (nI (custom))), (5, .int (nI (f))), (6, .int (nI (s2))), (7, .int (nI (t2))), (10, .int (nI (i)))]) hx hb dX6_works_144 hl (by decide) rfl (fun ls hl => ?_)
                                    refine lv_iinc (v := (nI (i + 1))) (lv' := [(10, .int (nI (i + 1))), (8, .long (lN (((if f = 0 ∧ t2 = 0 then 1 else 0) + lsq feet sort order (owf value letter long1 counting custom) (lwy feet sort order (owf value letter long1 counting custom) nv) f s2 t2 i) + 0))), (0, .ref (g.2.2 0)), (1, .int (nI (ft))), (2, .int (nI (y))), (3, .int (nI (counting))), (4, .int (nI (custom))), (5, .int (nI (f))), (6, .int (nI (s2))), (7, .int (nI (t2)))]) hx hb dX6_works_146 hl (k := 9) rfl (nI_add _ 1) (by decide) rfl (fun ls hl => ?_)
                                    refine lv_goto (tgt := 58) hx hb dX6_works_149 (by decide) ?_
                                    rw [lsq_nn (w := lwy feet sort order (owf value letter long1 counting custom) nv) (fe := feet) (so := sort) (nx := order) (ow := (owf value letter long1 counting custom)) (f := f) (s := s2) (t := t2) (v := i) (fun z => c_101 z.2.2)] at hl
                                    exact ih_58 (i + 1) (by omega) (by omega) _ _ hP hS ls (lv_sub hl [2, 3, 4, 5, 6, 7, 8, 9, 1, 0] rfl)
                                  · have c_101 := if_p c_101
                                    refine lv_aload_n hx hb dX6_works_104 rfl (lv_at hl 0 rfl) ?_
                                    refine an_get (ci := 6) (v := .ref (g.2.2 8)) (C := RX6) (T := TX6) (N := 23) hx hb hts iw_X6_works_X6 hown hK hP 0 rfl rfl 11 (by decide) (hts _ fl_X6_works_32) rfl dX6_works_105 ?_
                                    refine lv_iload hx hb dX6_works_108 (lv_at hl 5 rfl) ?_
                                    refine lv_aload_n hx hb dX6_works_110 rfl (lv_at hl 0 rfl) ?_
                                    refine an_get (ci := 6) (v := .ref (g.2.2 5)) (C := RX6) (T := TX6) (N := 23) hx hb hts iw_X6_works_X6 hown hK hP 0 rfl rfl 8 (by decide) (hts _ fl_X6_works_22) rfl dX6_works_111 ?_
                                    refine lv_iload hx hb dX6_works_114 (lv_at hl 9 rfl) ?_
                                    refine an_iald (f := feet) hx hb hK hP 5 0 rfl rfl (by decide) (by omega) dX6_works_116 ?_
                                    refine ln_toi (y := (nI (tn (feet i)))) (hf9.1) ?_
                                    refine ln_isub hx hb (by omega) dX6_works_117 ?_
                                    refine lv_aload_n hx hb dX6_works_118 rfl (lv_at hl 0 rfl) ?_
                                    refine an_get (ci := 6) (v := .ref (g.2.2 6)) (C := RX6) (T := TX6) (N := 23) hx hb hts iw_X6_works_X6 hown hK hP 0 rfl rfl 9 (by decide) (hts _ fl_X6_works_25) rfl dX6_works_119 ?_
                                    refine lv_iload hx hb dX6_works_122 (lv_at hl 9 rfl) ?_
                                    refine an_iald (f := sort) hx hb hK hP 6 0 rfl rfl (by decide) (by omega) dX6_works_124 ?_
                                    refine ln_toi (y := (nI (tn (sort i)))) (hs9.1) ?_
                                    refine lv_iload hx hb dX6_works_125 (lv_at hl 7 rfl) ?_
                                    refine lv_aload_n hx hb dX6_works_127 rfl (lv_at hl 0 rfl) ?_
                                    refine an_get (ci := 6) (v := .ref (g.2.2 10)) (C := RX6) (T := TX6) (N := 23) hx hb hts iw_X6_works_X6 hown hK hP 0 rfl rfl 13 (by decide) (hts _ fl_X6_works_39) rfl dX6_works_128 ?_
                                    refine lv_iload hx hb dX6_works_131 (lv_at hl 9 rfl) ?_
                                    refine an_iald (f := own8) hx hb hK hP 10 0 rfl rfl (by decide) (by omega) dX6_works_133 ?_
                                    refine ln_toi (y := (nI (tn (vsm value letter long1 counting custom i)))) ((hp8 i (by omega)).trans ho9.1) ?_
                                    refine ln_isub hx hb (by omega) dX6_works_134 ?_
                                    refine ro_call (va_runS (As := [.int (nI (f - (tn (feet i)))), .int (nI (tn (sort i))), .int (nI (t2 - (tn (vsm value letter long1 counting custom i))))]) (rest := [.ref (g.2.2 8), .long (lN ((if f = 0 ∧ t2 = 0 then 1 else 0) + lsq feet sort order (owf value letter long1 counting custom) (lwy feet sort order (owf value letter long1 counting custom) nv) f s2 t2 i))]) ⟨hx, hb, hml, hown, hts⟩ (c_X6_place l (f - (tn (feet i))) (tn (sort i)) (t2 - (tn (vsm value letter long1 counting custom i)))) (va_cwS 3 hts gX6_works_X6_place rfl rfl rfl (by decide +kernel) ⟨Nat.le_of_ble_eq_true rfl, Nat.le_of_ble_eq_true rfl⟩) pre_0 rfl rfl hl.1 rfl (lv_room (Nat.le_of_ble_eq_true rfl)) dX6_works_135 ⟨Nat.zero_le _, Nat.zero_le _⟩) ?_
                                    refine an_lald (f := b3) hx hb hK hP 8 1 rfl rfl (by decide) (by omega) dX6_works_138 ?_
                                    refine ln_tol (y := (lN (lwy feet sort order (owf value letter long1 counting custom) nv (f - tn (feet i)) (tn (sort i)) (t2 - tn (vsm value letter long1 counting custom i))))) (hb5 _ _ _ (by omega) (by omega) (by omega)) ?_
                                    refine lv_goto (tgt := 143) hx hb dX6_works_139 (by decide) ?_
                                    refine ln_ladd hx hb dX6_works_143 ?_
                                    refine lv_lstore (lv' := [(8, .long (lN (((if f = 0 ∧ t2 = 0 then 1 else 0) + lsq feet sort order (owf value letter long1 counting custom) (lwy feet sort order (owf value letter long1 counting custom) nv) f s2 t2 i) + (lwy feet sort order (owf value letter long1 counting custom) nv (f - tn (feet i)) (tn (sort i)) (t2 - tn (vsm value letter long1 counting custom i)))))), (0, .ref (g.2.2 0)), (1, .int (nI (ft))), (2, .int (nI (y))), (3, .int (nI (counting))), (4, .int (nI (custom))), (5, .int (nI (f))), (6, .int (nI (s2))), (7, .int (nI (t2))), (10, .int (nI (i)))]) hx hb dX6_works_144 hl (by decide) rfl (fun ls hl => ?_)
                                    refine lv_iinc (v := (nI (i + 1))) (lv' := [(10, .int (nI (i + 1))), (8, .long (lN (((if f = 0 ∧ t2 = 0 then 1 else 0) + lsq feet sort order (owf value letter long1 counting custom) (lwy feet sort order (owf value letter long1 counting custom) nv) f s2 t2 i) + (lwy feet sort order (owf value letter long1 counting custom) nv (f - tn (feet i)) (tn (sort i)) (t2 - tn (vsm value letter long1 counting custom i)))))), (0, .ref (g.2.2 0)), (1, .int (nI (ft))), (2, .int (nI (y))), (3, .int (nI (counting))), (4, .int (nI (custom))), (5, .int (nI (f))), (6, .int (nI (s2))), (7, .int (nI (t2)))]) hx hb dX6_works_146 hl (k := 9) rfl (nI_add _ 1) (by decide) rfl (fun ls hl => ?_)
                                    refine lv_goto (tgt := 58) hx hb dX6_works_149 (by decide) ?_
                                    rw [lsq_yy (w := lwy feet sort order (owf value letter long1 counting custom) nv) (fe := feet) (so := sort) (nx := order) (ow := (owf value letter long1 counting custom)) (f := f) (s := s2) (t := t2) (v := i) (by omega) (show tn (vsm value letter long1 counting custom i) ≤ t2 by omega) c_101] at hl
                                    exact ih_58 (i + 1) (by omega) (by omega) _ _ hP hS ls (lv_sub hl [2, 3, 4, 5, 6, 7, 8, 9, 1, 0] rfl)
                        exact lp_58 (nv - (0) + 1) 0 (Nat.zero_le _) (Nat.lt_succ_self _) _ _ hP hS ls (lv_sub hl [2, 3, 4, 5, 6, 7, 8, 9, 1, 0] rfl)
                      · have c_45 := (cz_eq_n (by omega)).mp c_45
                        refine lv_lconst (v := (lN (1))) hx hb dX6_works_48 (by decide) ?_
                        refine ln_tol (y := (lN ((if f = 0 ∧ t2 = 0 then 1 else 0) + lsq feet sort order (owf value letter long1 counting custom) (lwy feet sort order (owf value letter long1 counting custom) nv) f s2 t2 0))) (by rw [if_pos (by omega)]; rfl) ?_
                        refine lv_goto (tgt := 53) hx hb dX6_works_49 (by decide) ?_
                        refine lv_lstore (lv' := [(8, .long (lN ((if f = 0 ∧ t2 = 0 then 1 else 0) + lsq feet sort order (owf value letter long1 counting custom) (lwy feet sort order (owf value letter long1 counting custom) nv) f s2 t2 0))), (0, .ref (g.2.2 0)), (1, .int (nI (ft))), (2, .int (nI (y))), (3, .int (nI (counting))), (4, .int (nI (custom))), (5, .int (nI (f))), (6, .int (nI (s2))), (7, .int (nI (t2)))]) hx hb dX6_works_53 hl (by decide) rfl (fun ls hl => ?_)
                        refine lv_iconst (v := (nI (0))) hx hb dX6_works_55 (by decide) ?_
                        refine lv_istore (lv' := [(10, .int (nI (0))), (8, .long (lN ((if f = 0 ∧ t2 = 0 then 1 else 0) + lsq feet sort order (owf value letter long1 counting custom) (lwy feet sort order (owf value letter long1 counting custom) nv) f s2 t2 0))), (0, .ref (g.2.2 0)), (1, .int (nI (ft))), (2, .int (nI (y))), (3, .int (nI (counting))), (4, .int (nI (custom))), (5, .int (nI (f))), (6, .int (nI (s2))), (7, .int (nI (t2)))]) hx hb dX6_works_56 hl (by decide) rfl (fun ls hl => ?_)
                        have lp_58 : ∀ (n : Nat) (i : Nat), (i ≤ nv) → nv - i < n → ∀ (H : Heap) (locs : List Loc), va_P g.1 vwCl (wM g trace value draft typed (nI (nv)) letter long1 feet sort order b3 opn own8 other pick parts frm size isYear isNext ways nextWays) H → va_S (aW 19 g.2.2 s.heap.size) s.heap H locs → ∀ (ls : Array Slot), lv_has ls 11 [(0, .ref (g.2.2 0)), (1, .int (nI (ft))), (2, .int (nI (y))), (3, .int (nI (counting))), (4, .int (nI (custom))), (5, .int (nI (f))), (6, .int (nI (s2))), (7, .int (nI (t2))), (8, .long (lN ((if f = 0 ∧ t2 = 0 then 1 else 0) + lsq feet sort order (owf value letter long1 counting custom) (lwy feet sort order (owf value letter long1 counting custom) nv) f s2 t2 i))), (10, .int (nI (i)))] → W p l e (headSpec wsX6_works ({ frames := 5, cells := 0, slots := 0, locals := 114 })).room s m (([.ref (g.2.2 0), .int (nI (ft)), .int (nI (y)), .int (nI (counting)), .int (nI (custom))] : List Value).toArray) below meth c H locs 0 0 (MQ below (va_Qv (fun (z : (Nat → Int32) × (Nat → Int64)) => (∀ v, v < nv → z.1 v = vsm value letter long1 counting custom v) ∧ ∀ f s t, f ≤ ft → s < 4 → t ≤ y → z.2 (3001 * (4 * f + s) + t) = lN (lwy feet sort order (owf value letter long1 counting custom) nv f s t)) (fun (z : (Nat → Int32) × (Nat → Int64)) (t : State) => va_P g.1 vwCl (wM g trace value draft typed (nI (nv)) letter long1 feet sort order (z.2) opn (z.1) other pick parts frm size isYear isNext ways nextWays) t.heap) (aW 19 g.2.2 s.heap.size)) (([.ref (g.2.2 0), .int (nI (ft)), .int (nI (y)), .int (nI (counting)), .int (nI (custom))] : List Value).toArray) s 0 0 (aW 19 g.2.2 s.heap.size)) (F0 m 58 ls []) := by
                          intro n
                          induction n with
                          | zero => intro i hi hm; exact absurd hm (Nat.not_lt_zero _)
                          | succ n ih_58 =>
                            intro i hi hm_58 H locs hP hS ls hl
                            refine lv_iload hx hb dX6_works_58 (lv_at hl 9 rfl) ?_
                            refine lv_aload_n hx hb dX6_works_60 rfl (lv_at hl 0 rfl) ?_
                            refine an_get (ci := 6) (v := .int (nI (nv))) (C := RX6) (T := TX6) (N := 23) hx hb hts iw_X6_works_X6 hown hK hP 0 rfl rfl 5 (by decide) (hts _ fl_X6_works_124) rfl dX6_works_61 ?_
                            refine lv_icmp_ge (tgt := 152) hx hb dX6_works_64 (by decide) (fun c_64 => ?_) (fun c_64 => ?_)
                            · have c_64 := (cv_le_nn (by omega) (by omega)).mp c_64
                              refine lv_aload_n hx hb dX6_works_152 rfl (lv_at hl 0 rfl) ?_
                              refine an_get (ci := 6) (v := .ref (g.2.2 8)) (C := RX6) (T := TX6) (N := 23) hx hb hts iw_X6_works_X6 hown hK hP 0 rfl rfl 11 (by decide) (hts _ fl_X6_works_32) rfl dX6_works_153 ?_
                              refine lv_iload hx hb dX6_works_156 (lv_at hl 5 rfl) ?_
                              refine lv_iload hx hb dX6_works_158 (lv_at hl 6 rfl) ?_
                              refine lv_iload hx hb dX6_works_160 (lv_at hl 7 rfl) ?_
                              refine ro_call (va_runS (As := [.int (nI (f)), .int (nI (s2)), .int (nI (t2))]) (rest := [.ref (g.2.2 8)]) ⟨hx, hb, hml, hown, hts⟩ (c_X6_place l (f) (s2) (t2)) (va_cwS 3 hts gX6_works_X6_place rfl rfl rfl (by decide +kernel) ⟨Nat.le_of_ble_eq_true rfl, Nat.le_of_ble_eq_true rfl⟩) pre_0 rfl rfl hl.1 rfl (lv_room (Nat.le_of_ble_eq_true rfl)) dX6_works_162 ⟨Nat.zero_le _, Nat.zero_le _⟩) ?_
                              refine lv_lload hx hb dX6_works_165 (lv_at hl 8 rfl) ?_
                              refine an_last (f := b3) (ws' := (wM g trace value draft typed (nI (nv)) letter long1 feet sort order (vp_updL (b3) (3001 * (4 * (f) + (s2)) + (t2)) (lN ((if f = 0 ∧ t2 = 0 then 1 else 0) + lsq feet sort order (owf value letter long1 counting custom) (lwy feet sort order (owf value letter long1 counting custom) nv) f s2 t2 i))) opn own8 other pick parts frm size isYear isNext ways nextWays)) hx hb hK hP (wM_D hd) hS 8 1 rfl rfl (by decide) (by omega) rfl dX6_works_167 (fun H locs hP hS => ?_)
                              refine lv_iinc (v := (nI (t2 + 1))) (lv' := [(7, .int (nI (t2 + 1))), (0, .ref (g.2.2 0)), (1, .int (nI (ft))), (2, .int (nI (y))), (3, .int (nI (counting))), (4, .int (nI (custom))), (5, .int (nI (f))), (6, .int (nI (s2))), (8, .long (lN ((if f = 0 ∧ t2 = 0 then 1 else 0) + lsq feet sort order (owf value letter long1 counting custom) (lwy feet sort order (owf value letter long1 counting custom) nv) f s2 t2 i))), (10, .int (nI (i)))]) hx hb dX6_works_168 hl (k := 7) rfl (nI_add _ 1) (by decide) rfl (fun ls hl => ?_)
                              refine lv_goto (tgt := 32) hx hb dX6_works_171 (by decide) ?_
                              rw [show i = nv by omega, lwy_t hfe] at hP
                              exact ih_32 (t2 + 1) (vp_updL b3 (3001 * (4 * f + s2) + t2) (lN (lwy feet sort order (owf value letter long1 counting custom) nv f s2 t2))) (by omega) (fun f2 s t h1 h2 h3 => by rw [pk_uLn (by omega)]; exact hb5 f2 s t h1 h2 h3) (fun s t h1 h2 => by rw [pk_uLn (by omega)]; exact hb6 s t h1 h2) (fun t h1 => by by_cases e : t = t2; (subst e; exact pk_uLs); rw [pk_uLn (by omega)]; exact hb7 t (by omega)) (by omega) _ _ hP hS ls (lv_sub hl [1, 2, 3, 4, 5, 6, 7, 0] rfl)
                            · have c_64 := (not_congr (cv_le_nn (by omega) (by omega))).mp c_64
                              refine lv_lload hx hb dX6_works_67 (lv_at hl 8 rfl) ?_
                              refine lv_aload_n hx hb dX6_works_69 rfl (lv_at hl 0 rfl) ?_
                              refine an_get (ci := 6) (v := .ref (g.2.2 5)) (C := RX6) (T := TX6) (N := 23) hx hb hts iw_X6_works_X6 hown hK hP 0 rfl rfl 8 (by decide) (hts _ fl_X6_works_22) rfl dX6_works_70 ?_
                              refine lv_iload hx hb dX6_works_73 (lv_at hl 9 rfl) ?_
                              have hf9 := hfe i (by omega)
                              have hs9 := hso i (by omega)
                              have ho9 := vsm_ok (tx := letter) (n := counting) hva hk hle (show i < nv by omega)
                              refine an_iald (f := feet) hx hb hK hP 5 0 rfl rfl (by decide) (by omega) dX6_works_75 ?_
                              refine ln_toi (y := (nI (tn (feet i)))) (hf9.1) ?_
                              refine lv_iload hx hb dX6_works_76 (lv_at hl 5 rfl) ?_
                              refine lv_icmp_gt (tgt := 142) hx hb dX6_works_78 (by decide) (fun c_78 => ?_) (fun c_78 => ?_)
                              · have c_78 := (cv_lt_nn (by omega) (by omega)).mp c_78
                                refine lv_lconst (v := (lN (0))) hx hb dX6_works_142 (by decide) ?_
                                refine ln_ladd hx hb dX6_works_143 ?_
                                refine lv_lstore (lv' := [(8, .long (lN (((if f = 0 ∧ t2 = 0 then 1 else 0) + lsq feet sort order (owf value letter long1 counting custom) (lwy feet sort order (owf value letter long1 counting custom) nv) f s2 t2 i) + 0))), (0, .ref (g.2.2 0)), (1, .int (nI (ft))), (2, .int (nI (y))), (3, .int (nI (counting))), (4, .int (nI (custom))), (5, .int (nI (f))), (6, .int (nI (s2))), (7, .int (nI (t2))), (10, .int (nI (i)))]) hx hb dX6_works_144 hl (by decide) rfl (fun ls hl => ?_)
                                refine lv_iinc (v := (nI (i + 1))) (lv' := [(10, .int (nI (i + 1))), (8, .long (lN (((if f = 0 ∧ t2 = 0 then 1 else 0) + lsq feet sort order (owf value letter long1 counting custom) (lwy feet sort order (owf value letter long1 counting custom) nv) f s2 t2 i) + 0))), (0, .ref (g.2.2 0)), (1, .int (nI (ft))), (2, .int (nI (y))), (3, .int (nI (counting))), (4, .int (nI (custom))), (5, .int (nI (f))), (6, .int (nI (s2))), (7, .int (nI (t2)))]) hx hb dX6_works_146 hl (k := 9) rfl (nI_add _ 1) (by decide) rfl (fun ls hl => ?_)
                                refine lv_goto (tgt := 58) hx hb dX6_works_149 (by decide) ?_
                                rw [lsq_nn (w := lwy feet sort order (owf value letter long1 counting custom) nv) (fe := feet) (so := sort) (nx := order) (ow := (owf value letter long1 counting custom)) (f := f) (s := s2) (t := t2) (v := i) (fun z => absurd z.1 (by omega))] at hl
                                exact ih_58 (i + 1) (by omega) (by omega) _ _ hP hS ls (lv_sub hl [2, 3, 4, 5, 6, 7, 8, 9, 1, 0] rfl)
                              · have c_78 := (not_congr (cv_lt_nn (by omega) (by omega))).mp c_78
                                refine lv_aload_n hx hb dX6_works_81 rfl (lv_at hl 0 rfl) ?_
                                refine an_get (ci := 6) (v := .ref (g.2.2 10)) (C := RX6) (T := TX6) (N := 23) hx hb hts iw_X6_works_X6 hown hK hP 0 rfl rfl 13 (by decide) (hts _ fl_X6_works_39) rfl dX6_works_82 ?_
                                refine lv_iload hx hb dX6_works_85 (lv_at hl 9 rfl) ?_
                                refine an_iald (f := own8) hx hb hK hP 10 0 rfl rfl (by decide) (by omega) dX6_works_87 ?_
                                refine ln_toi (y := (nI (tn (vsm value letter long1 counting custom i)))) ((hp8 i (by omega)).trans ho9.1) ?_
                                refine lv_iload hx hb dX6_works_88 (lv_at hl 7 rfl) ?_
                                refine lv_icmp_gt (tgt := 142) hx hb dX6_works_90 (by decide) (fun c_90 => ?_) (fun c_90 => ?_)
                                · have c_90 := (cv_lt_nn (by omega) (by omega)).mp c_90
                                  refine lv_lconst (v := (lN (0))) hx hb dX6_works_142 (by decide) ?_
                                  refine ln_ladd hx hb dX6_works_143 ?_
                                  refine lv_lstore (lv' := [(8, .long (lN (((if f = 0 ∧ t2 = 0 then 1 else 0) + lsq feet sort order (owf value letter long1 counting custom) (lwy feet sort order (owf value letter long1 counting custom) nv) f s2 t2 i) + 0))), (0, .ref (g.2.2 0)), (1, .int (nI (ft))), (2, .int (nI (y))), (3, .int (nI (counting))), (4, .int (nI (custom))), (5, .int (nI (f))), (6, .int (nI (s2))), (7, .int (nI (t2))), (10, .int (nI (i)))]) hx hb dX6_works_144 hl (by decide) rfl (fun ls hl => ?_)
                                  refine lv_iinc (v := (nI (i + 1))) (lv' := [(10, .int (nI (i + 1))), (8, .long (lN (((if f = 0 ∧ t2 = 0 then 1 else 0) + lsq feet sort order (owf value letter long1 counting custom) (lwy feet sort order (owf value letter long1 counting custom) nv) f s2 t2 i) + 0))), (0, .ref (g.2.2 0)), (1, .int (nI (ft))), (2, .int (nI (y))), (3, .int (nI (counting))), (4, .int (nI (custom))), (5, .int (nI (f))), (6, .int (nI (s2))), (7, .int (nI (t2)))]) hx hb dX6_works_146 hl (k := 9) rfl (nI_add _ 1) (by decide) rfl (fun ls hl => ?_)
                                  refine lv_goto (tgt := 58) hx hb dX6_works_149 (by decide) ?_
                                  rw [lsq_nn (w := lwy feet sort order (owf value letter long1 counting custom) nv) (fe := feet) (so := sort) (nx := order) (ow := (owf value letter long1 counting custom)) (f := f) (s := s2) (t := t2) (v := i) (fun z => absurd z.2.1 (show ¬ tn (vsm value letter long1 counting custom i) ≤ t2 by omega))] at hl
                                  exact ih_58 (i + 1) (by omega) (by omega) _ _ hP hS ls (lv_sub hl [2, 3, 4, 5, 6, 7, 8, 9, 1, 0] rfl)
                                · have c_90 := (not_congr (cv_lt_nn (by omega) (by omega))).mp c_90
                                  refine lv_aload_n hx hb dX6_works_93 rfl (lv_at hl 0 rfl) ?_
                                  refine lv_iload hx hb dX6_works_94 (lv_at hl 6 rfl) ?_
                                  refine lv_iload hx hb dX6_works_96 (lv_at hl 9 rfl) ?_
                                  refine ro_call (va_runV (As := [.int (nI (s2)), .int (nI (i))]) (rest := [.long (lN ((if f = 0 ∧ t2 = 0 then 1 else 0) + lsq feet sort order (owf value letter long1 counting custom) (lwy feet sort order (owf value letter long1 counting custom) nv) f s2 t2 i))]) ⟨hx, hb, hml, hown, hts⟩ (c_X6_isAfter l (g := g) (trace := trace) (value := value) (draft := draft) (typed := typed) (vocables := nI (nv)) (letter := letter) (long1 := long1) (feet := feet) (sort := sort) (order := order) (left := b3) (opn := opn) (own := own8) (other := other) (pick := pick) (parts := parts) (frm := frm) (size := size) (isYear := isYear) (isNext := isNext) (ways := ways) (nextWays := nextWays) (s2) (i) (by omega) (by omega)) (cwV 2 hts gX6_works_X6_isAfter rfl rfl rfl (by decide +kernel) ⟨Nat.le_of_ble_eq_true rfl, Nat.le_of_ble_eq_true rfl⟩) (pre_V pW_bl (va_recv hK hP (ci := 6) (q0 := 0) rfl rfl) (fun U hU hW => pW_of hP hK hN hU hW)) rfl rfl hl.1 rfl (lv_room (Nat.le_of_ble_eq_true rfl)) dX6_works_98 ⟨Nat.zero_le _, Nat.zero_le _⟩) ?_
                                  refine lv_if_eq (tgt := 142) hx hb dX6_works_101 (by decide) (fun c_101 => ?_) (fun c_101 => ?_)
                                  · have c_101 := if_n c_101
                                    refine lv_lconst (v := (lN (0))) hx hb dX6_works_142 (by decide) ?_
                                    refine ln_ladd hx hb dX6_works_143 ?_
                                    refine lv_lstore (lv' := [(8, .long (lN (((if f = 0 ∧ t2 = 0 then 1 else 0) + lsq feet sort order (owf value letter long1 counting custom) (lwy feet sort order (owf value letter long1 counting custom) nv) f s2 t2 i) + 0))), (0, .ref (g.2.2 0)), (1, .int (nI (ft))), (2, .int (nI (y))), (3, .int (nI (counting))), (4, .int (nI (custom))), (5, .int (nI (f))), (6, .int (nI (s2))), (7, .int (nI (t2))), (10, .int (nI (i)))]) hx hb dX6_works_144 hl (by decide) rfl (fun ls hl => ?_)
                                    refine lv_iinc (v := (nI (i + 1))) (lv' := [(10, .int (nI (i + 1))), (8, .long (lN (((if f = 0 ∧ t2 = 0 then 1 else 0) + lsq feet sort order (owf value letter long1 counting custom) (lwy feet sort order (owf value letter long1 counting custom) nv) f s2 t2 i) + 0))), (0, .ref (g.2.2 0)), (1, .int (nI (ft))), (2, .int (nI (y))), (3, .int (nI (counting))), (4, .int (nI (custom))), (5, .int (nI (f))), (6, .int (nI (s2))), (7, .int (nI (t2)))]) hx hb dX6_works_146 hl (k := 9) rfl (nI_add _ 1) (by decide) rfl (fun ls hl => ?_)
                                    refine lv_goto (tgt := 58) hx hb dX6_works_149 (by decide) ?_
                                    rw [lsq_nn (w := lwy feet sort order (owf value letter long1 counting custom) nv) (fe := feet) (so := sort) (nx := order) (ow := (owf value letter long1 counting custom)) (f := f) (s := s2) (t := t2) (v := i) (fun z => c_101 z.2.2)] at hl
                                    exact ih_58 (i + 1) (by omega) (by omega) _ _ hP hS ls (lv_sub hl [2, 3, 4, 5, 6, 7, 8, 9, 1, 0] rfl)
                                  · have c_101 := if_p c_101
                                    refine lv_aload_n hx hb dX6_works_104 rfl (lv_at hl 0 rfl) ?_
                                    refine an_get (ci := 6) (v := .ref (g.2.2 8)) (C := RX6) (T := TX6) (N := 23) hx hb hts iw_X6_works_X6 hown hK hP 0 rfl rfl 11 (by decide) (hts _ fl_X6_works_32) rfl dX6_works_105 ?_
                                    refine lv_iload hx hb dX6_works_108 (lv_at hl 5 rfl) ?_
                                    refine lv_aload_n hx hb dX6_works_110 rfl (lv_at hl 0 rfl) ?_
                                    refine an_get (ci := 6) (v := .ref (g.2.2 5)) (C := RX6) (T := TX6) (N := 23) hx hb hts iw_X6_works_X6 hown hK hP 0 rfl rfl 8 (by decide) (hts _ fl_X6_works_22) rfl dX6_works_111 ?_
                                    refine lv_iload hx hb dX6_works_114 (lv_at hl 9 rfl) ?_
                                    refine an_iald (f := feet) hx hb hK hP 5 0 rfl rfl (by decide) (by omega) dX6_works_116 ?_
                                    refine ln_toi (y := (nI (tn (feet i)))) (hf9.1) ?_
                                    refine ln_isub hx hb (by omega) dX6_works_117 ?_
                                    refine lv_aload_n hx hb dX6_works_118 rfl (lv_at hl 0 rfl) ?_
                                    refine an_get (ci := 6) (v := .ref (g.2.2 6)) (C := RX6) (T := TX6) (N := 23) hx hb hts iw_X6_works_X6 hown hK hP 0 rfl rfl 9 (by decide) (hts _ fl_X6_works_25) rfl dX6_works_119 ?_
                                    refine lv_iload hx hb dX6_works_122 (lv_at hl 9 rfl) ?_
                                    refine an_iald (f := sort) hx hb hK hP 6 0 rfl rfl (by decide) (by omega) dX6_works_124 ?_
                                    refine ln_toi (y := (nI (tn (sort i)))) (hs9.1) ?_
                                    refine lv_iload hx hb dX6_works_125 (lv_at hl 7 rfl) ?_
                                    refine lv_aload_n hx hb dX6_works_127 rfl (lv_at hl 0 rfl) ?_
                                    refine an_get (ci := 6) (v := .ref (g.2.2 10)) (C := RX6) (T := TX6) (N := 23) hx hb hts iw_X6_works_X6 hown hK hP 0 rfl rfl 13 (by decide) (hts _ fl_X6_works_39) rfl dX6_works_128 ?_
                                    refine lv_iload hx hb dX6_works_131 (lv_at hl 9 rfl) ?_
                                    refine an_iald (f := own8) hx hb hK hP 10 0 rfl rfl (by decide) (by omega) dX6_works_133 ?_
                                    refine ln_toi (y := (nI (tn (vsm value letter long1 counting custom i)))) ((hp8 i (by omega)).trans ho9.1) ?_
                                    refine ln_isub hx hb (by omega) dX6_works_134 ?_
                                    refine ro_call (va_runS (As := [.int (nI (f - (tn (feet i)))), .int (nI (tn (sort i))), .int (nI (t2 - (tn (vsm value letter long1 counting custom i))))]) (rest := [.ref (g.2.2 8), .long (lN ((if f = 0 ∧ t2 = 0 then 1 else 0) + lsq feet sort order (owf value letter long1 counting custom) (lwy feet sort order (owf value letter long1 counting custom) nv) f s2 t2 i))]) ⟨hx, hb, hml, hown, hts⟩ (c_X6_place l (f - (tn (feet i))) (tn (sort i)) (t2 - (tn (vsm value letter long1 counting custom i)))) (va_cwS 3 hts gX6_works_X6_place rfl rfl rfl (by decide +kernel) ⟨Nat.le_of_ble_eq_true rfl, Nat.le_of_ble_eq_true rfl⟩) pre_0 rfl rfl hl.1 rfl (lv_room (Nat.le_of_ble_eq_true rfl)) dX6_works_135 ⟨Nat.zero_le _, Nat.zero_le _⟩) ?_
                                    refine an_lald (f := b3) hx hb hK hP 8 1 rfl rfl (by decide) (by omega) dX6_works_138 ?_
                                    refine ln_tol (y := (lN (lwy feet sort order (owf value letter long1 counting custom) nv (f - tn (feet i)) (tn (sort i)) (t2 - tn (vsm value letter long1 counting custom i))))) (hb5 _ _ _ (by omega) (by omega) (by omega)) ?_
                                    refine lv_goto (tgt := 143) hx hb dX6_works_139 (by decide) ?_
                                    refine ln_ladd hx hb dX6_works_143 ?_
                                    refine lv_lstore (lv' := [(8, .long (lN (((if f = 0 ∧ t2 = 0 then 1 else 0) + lsq feet sort order (owf value letter long1 counting custom) (lwy feet sort order (owf value letter long1 counting custom) nv) f s2 t2 i) + (lwy feet sort order (owf value letter long1 counting custom) nv (f - tn (feet i)) (tn (sort i)) (t2 - tn (vsm value letter long1 counting custom i)))))), (0, .ref (g.2.2 0)), (1, .int (nI (ft))), (2, .int (nI (y))), (3, .int (nI (counting))), (4, .int (nI (custom))), (5, .int (nI (f))), (6, .int (nI (s2))), (7, .int (nI (t2))), (10, .int (nI (i)))]) hx hb dX6_works_144 hl (by decide) rfl (fun ls hl => ?_)
                                    refine lv_iinc (v := (nI (i + 1))) (lv' := [(10, .int (nI (i + 1))), (8, .long (lN (((if f = 0 ∧ t2 = 0 then 1 else 0) + lsq feet sort order (owf value letter long1 counting custom) (lwy feet sort order (owf value letter long1 counting custom) nv) f s2 t2 i) + (lwy feet sort order (owf value letter long1 counting custom) nv (f - tn (feet i)) (tn (sort i)) (t2 - tn (vsm value letter long1 counting custom i)))))), (0, .ref (g.2.2 0)), (1, .int (nI (ft))), (2, .int (nI (y))), (3, .int (nI (counting))), (4, .int (nI (custom))), (5, .int (nI (f))), (6, .int (nI (s2))), (7, .int (nI (t2)))]) hx hb dX6_works_146 hl (k := 9) rfl (nI_add _ 1) (by decide) rfl (fun ls hl => ?_)
                                    refine lv_goto (tgt := 58) hx hb dX6_works_149 (by decide) ?_
                                    rw [lsq_yy (w := lwy feet sort order (owf value letter long1 counting custom) nv) (fe := feet) (so := sort) (nx := order) (ow := (owf value letter long1 counting custom)) (f := f) (s := s2) (t := t2) (v := i) (by omega) (show tn (vsm value letter long1 counting custom i) ≤ t2 by omega) c_101] at hl
                                    exact ih_58 (i + 1) (by omega) (by omega) _ _ hP hS ls (lv_sub hl [2, 3, 4, 5, 6, 7, 8, 9, 1, 0] rfl)
                        exact lp_58 (nv - (0) + 1) 0 (Nat.zero_le _) (Nat.lt_succ_self _) _ _ hP hS ls (lv_sub hl [2, 3, 4, 5, 6, 7, 8, 9, 1, 0] rfl)
              exact lp_32 (y + 1 - (0) + 1) 0 b2 (by omega) (hb3) (hb4) (fun t h => absurd h (Nat.not_lt_zero t)) (Nat.lt_succ_self _) _ _ hP hS ls (lv_sub hl [1, 2, 3, 4, 5, 6, 7, 0] rfl)
        exact lp_23 (4 - (0) + 1) 0 b (Nat.zero_le _) (hb2) (fun s t h => absurd h (Nat.not_lt_zero s)) (Nat.lt_succ_self _) _ _ hP hS ls (lv_sub hl [1, 2, 3, 4, 5, 6, 0] rfl)
  exact lp_14 (ft + 1 - (0) + 1) 0 left (by omega) (fun f2 s t h1 => absurd h1 (Nat.not_lt_zero f2)) (Nat.lt_succ_self _) _ _ hP hS ls (lv_sub hl [1, 2, 3, 4, 5, 0] rfl)
theorem iw_X6_lines_X6 : ∀ w ∈ u_ws RX6 TX6 23, w ∈ wsX6_lines := by decide +kernel
theorem fl_X6_lines_32 : Cond.fieldLink RX6 32 (TX6 11).1 (TX6 11).2.1 (TX6 11).2.2.1 ∈ wsX6_lines := by decide +kernel
theorem fl_X6_lines_67 : Cond.fieldLink RX6 67 (TX6 0).1 (TX6 0).2.1 (TX6 0).2.2.1 ∈ wsX6_lines := by decide +kernel
set_option maxHeartbeats 200000 in
set_option maxRecDepth 100000 in
theorem c_X6_lines (l : Launch) {g : GW} {trace : Int64} {value : Nat → Int32} {draft : Nat → Int32} {typed : Int32} {nv : Nat} {letter : Nat → Int32} {long1 : Nat → Int32} {feet : Nat → Int32} {sort : Nat → Int32} {order : Nat → Int32} {left : Nat → Int64} {opn : Nat → Int64} {own : Nat → Int32} {other : Nat → Int32} {pick : Nat → Int32} {parts : Int32} {frm : Nat → Int32} {size : Nat → Int32} {isYear : Nat → Int32} {isNext : Nat → Int32} {ways : Nat → Int64} {nextWays : Nat → Int64} {sz : Nat} (ft : Int32) (y : Int32) (counting : Int32) (custom : Int32) (hnv : nv ≤ 10) (hle : okV long1 nv 1 8) (hfe : okV feet nv 1 3) (hso : okV sort nv 0 2) (hva : okV value 104 0 1000) (hd : dW 19 g.2.2) : Met l yX6_lines wsX6_lines ({ frames := 6, cells := 0, slots := 0, locals := 144 }) (va_Pc ([.ref (g.2.2 0), .int (ft), .int (y), .int (counting), .int (custom)]) (qW g (wM g trace value draft typed (nI (nv)) letter long1 feet sort order left opn own other pick parts frm size isYear isNext ways nextWays) sz)) (va_Ql (fun (r : Int64) (z : (Nat → Int32) × (Nat → Int64)) => r = if lok ft y counting custom then lN (lwy feet sort order (owf value letter long1 (tn counting) (tn custom)) nv (tn ft) 3 (tn y)) else (-1 : Int64)) (fun (z : (Nat → Int32) × (Nat → Int64)) (t : State) => va_P g.1 vwCl (wM g trace value draft typed (nI (nv)) letter long1 feet sort order (z.2) opn (z.1) other pick parts frm size isYear isNext ways nextWays) t.heap) (aW 19 g.2.2 sz)) 0 0 (aW 19 g.2.2 sz) := by
  refine Met.ofW (cc := cX6_lines) (maxL := 5) (ret := (some .long)) (by decide) rfl ?_
  intro p e s m args below meth c s₁ B hml hv
  obtain ⟨rfl, hsz9, hP, hK, hN⟩ := hv
  subst hsz9
  have hx := B.exec
  have hb := B.bytes
  have hr := B.returns
  have hts := atoms_spec (ws := wsX6_lines) B.pre
  have hown : s.vm.findClass RX6 = some m.cls := findClass_of_methodNamed B.named
  have hlocks := B.notSynchronized
  have hS : va_S (aW 19 g.2.2 s.heap.size) s.heap s.heap [] := va_S.rf
  have hl := lv_entry ([.ref (g.2.2 0), .int (ft), .int (y), .int (counting), .int (custom)]) (n := 5) (Nat.le_of_ble_eq_true rfl)
  rw [lg_entry_eq]
  generalize (lg_sl ([.ref (g.2.2 0), .int (ft), .int (y), .int (counting), .int (custom)]) ++ List.replicate (5 - (lg_sl ([.ref (g.2.2 0), .int (ft), .int (y), .int (counting), .int (custom)])).length) Slot.unset).toArray = ls at hl ⊢
  have hl : lv_has ls 5 [(0, .ref (g.2.2 0)), (1, .int (ft)), (2, .int (y)), (3, .int (counting)), (4, .int (custom))] := hl
  refine lv_aload_n hx hb dX6_lines_0 rfl (lv_at hl 0 rfl) ?_
  refine lv_iconst (v := (nI (0))) hx hb dX6_lines_1 (by decide) ?_
  refine an_put (ci := 6) (v := .int (nI (0))) (ty := .int) (C := RX6) (T := TX6) (N := 23) (ws' := (wM g trace value draft typed (nI (nv)) letter long1 feet sort order left opn own other pick parts frm size isYear isNext ways nextWays)) hx hb hts iw_X6_lines_X6 tyX6 tyX6_ok nmX6 hown hK hP (wM_D hd) hS 0 rfl rfl 0 (by decide) (hts _ fl_X6_lines_67) rfl (by decide +kernel) (rfl) (rfl) (Nat.le_of_ble_eq_true rfl) rfl dX6_lines_2 (fun H locs hP hS => ?_)
  refine lv_iload_n hx hb dX6_lines_5 rfl (lv_at hl 1 rfl) ?_
  refine lv_iload_n hx hb dX6_lines_6 rfl (lv_at hl 2 rfl) ?_
  refine lv_iload_n hx hb dX6_lines_7 rfl (lv_at hl 3 rfl) ?_
  refine lv_iload hx hb dX6_lines_8 (lv_at hl 4 rfl) ?_
  refine ro_call (va_runS (As := [.int (ft), .int (y), .int (counting), .int (custom)]) (rest := []) ⟨hx, hb, hml, hown, hts⟩ (c_X6_isAsked l (ft) (y) (counting) (custom)) (va_cwS 4 hts gX6_lines_X6_isAsked rfl rfl rfl (by decide +kernel) ⟨Nat.le_of_ble_eq_true rfl, Nat.le_of_ble_eq_true rfl⟩) pre_0 rfl rfl hl.1 rfl (lv_room (Nat.le_of_ble_eq_true rfl)) dX6_lines_10 ⟨Nat.zero_le _, Nat.zero_le _⟩) ?_
  refine lv_if_ne (tgt := 20) hx hb dX6_lines_13 (by decide) (fun c_13 => ?_) (fun c_13 => ?_)
  · have c_13 := if_p c_13
    have cA := c_13
    obtain ⟨⟨h11, h12⟩, ⟨h13, h14⟩, ⟨h15, h16⟩, h17, h18⟩ := c_13
    obtain ⟨f0, hf0, rfl⟩ := iN_of (x := ft) (b := 9) (by omega) (by omega)
    obtain ⟨y0, hy0, rfl⟩ := iN_of (x := y) (b := 3001) (by omega) (by omega)
    obtain ⟨n9, hn9, rfl⟩ := iN_of (b := 3) h15 h16
    obtain ⟨k9, hk9, rfl⟩ := iN_of (b := 4) h17 h18
    have e1 : tn (nI f0) = f0 := tn_nI (by omega)
    have e2 : tn (nI y0) = y0 := tn_nI (by omega)
    have e3 : tn (nI n9) = n9 := tn_nI (by omega)
    have e4 : tn (nI k9) = k9 := tn_nI (by omega)
    refine lv_aload_n hx hb dX6_lines_20 rfl (lv_at hl 0 rfl) ?_
    refine lv_iload_n hx hb dX6_lines_21 rfl (lv_at hl 1 rfl) ?_
    refine lv_iload_n hx hb dX6_lines_22 rfl (lv_at hl 2 rfl) ?_
    refine lv_iload_n hx hb dX6_lines_23 rfl (lv_at hl 3 rfl) ?_
    refine lv_iload hx hb dX6_lines_24 (lv_at hl 4 rfl) ?_
    refine wr_callv (w := (fun (z : (Nat → Int32) × (Nat → Int64)) => (wM g trace value draft typed (nI (nv)) letter long1 feet sort order (z.2) opn (z.1) other pick parts frm size isYear isNext ways nextWays))) (va_runV (As := [.int (nI (f0)), .int (nI (y0)), .int (nI (n9)), .int (nI (k9))]) (rest := []) ⟨hx, hb, hml, hown, hts⟩ (c_X6_works l (g := g) (trace := trace) (value := value) (draft := draft) (typed := typed) (nv := nv) (letter := letter) (long1 := long1) (feet := feet) (sort := sort) (order := order) (left := left) (opn := opn) (own := own) (other := other) (pick := pick) (parts := parts) (frm := frm) (size := size) (isYear := isYear) (isNext := isNext) (ways := ways) (nextWays := nextWays) (sz := _) (f0) (y0) (n9) (k9) (by omega) (by omega) hn9 hk9 hnv hle hfe hso hva hd) (cwV 4 hts gX6_lines_X6_works rfl rfl rfl (by decide +kernel) ⟨Nat.le_of_ble_eq_true rfl, Nat.le_of_ble_eq_true rfl⟩) (pre_V qW_bl (va_recv hK hP (ci := 6) (q0 := 0) rfl rfl) (fun U hU hW => ⟨by rw [hU], pW_of hP hK hN hU hW⟩)) rfl rfl hl.1 rfl (lv_room (Nat.le_of_ble_eq_true rfl)) dX6_lines_26 ⟨Nat.zero_le _, Nat.zero_le _⟩) hS (fun z26 H locs hp26 hP hS => ?_)
    obtain ⟨own26, left26⟩ := z26
    try dsimp only at hp26
    have hP : va_P g.1 vwCl (wM g trace value draft typed (nI (nv)) letter long1 feet sort order left26 opn own26 other pick parts frm size isYear isNext ways nextWays) H := hP
    refine lv_aload_n hx hb dX6_lines_29 rfl (lv_at hl 0 rfl) ?_
    refine an_get (ci := 6) (v := .ref (g.2.2 8)) (C := RX6) (T := TX6) (N := 23) hx hb hts iw_X6_lines_X6 hown hK hP 0 rfl rfl 11 (by decide) (hts _ fl_X6_lines_32) rfl dX6_lines_30 ?_
    refine lv_iload_n hx hb dX6_lines_33 rfl (lv_at hl 1 rfl) ?_
    refine lv_iconst (v := (nI (3))) hx hb dX6_lines_34 (by decide) ?_
    refine lv_iload_n hx hb dX6_lines_35 rfl (lv_at hl 2 rfl) ?_
    refine ro_call (va_runS (As := [.int (nI (f0)), .int (nI (3)), .int (nI (y0))]) (rest := [.ref (g.2.2 8)]) ⟨hx, hb, hml, hown, hts⟩ (c_X6_place l (f0) (3) (y0)) (va_cwS 3 hts gX6_lines_X6_place rfl rfl rfl (by decide +kernel) ⟨Nat.le_of_ble_eq_true rfl, Nat.le_of_ble_eq_true rfl⟩) pre_0 rfl rfl hl.1 rfl (lv_room (Nat.le_of_ble_eq_true rfl)) dX6_lines_36 ⟨Nat.zero_le _, Nat.zero_le _⟩) ?_
    refine an_lald (f := left26) hx hb hK hP 8 1 rfl rfl (by decide) (by omega) dX6_lines_39 ?_
    refine ln_tol (y := (lN (lwy feet sort order (owf value letter long1 n9 k9) nv f0 3 y0))) (hp26.2 f0 3 y0 (by omega) (by omega) (by omega)) ?_
    exact wr_lret (own26, left26) hx hb hr hlocks (by rw [if_pos cA, e1, e2, e3, e4]) (fun t ht => show va_P g.1 vwCl (wM g trace value draft typed (nI (nv)) letter long1 feet sort order left26 opn own26 other pick parts frm size isYear isNext ways nextWays) t.heap by rw [ht]; exact hP) hS dX6_lines_40
  · have c_13 := if_n c_13
    refine lv_ldc2 hx hb hown (hts (.constantLong RX6 129 (-1)) (by decide +kernel)) dX6_lines_16 ?_
    exact wr_lret (own, left) hx hb hr hlocks (by rw [if_neg c_13]) (fun t ht => show va_P g.1 vwCl (wM g trace value draft typed (nI (nv)) letter long1 feet sort order left opn own other pick parts frm size isYear isNext ways nextWays) t.heap by rw [ht]; exact hP) hS dX6_lines_19
