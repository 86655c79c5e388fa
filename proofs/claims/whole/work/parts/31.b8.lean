theorem iw_X6_fit_X6 : ∀ w ∈ u_ws RX6 TX6 23, w ∈ wsX6_fit := by decide +kernel
theorem fl_X6_fit_67 : Cond.fieldLink RX6 67 (TX6 0).1 (TX6 0).2.1 (TX6 0).2.2.1 ∈ wsX6_fit := by decide +kernel
theorem fl_X6_fit_124 : Cond.fieldLink RX6 124 (TX6 5).1 (TX6 5).2.1 (TX6 5).2.2.1 ∈ wsX6_fit := by decide +kernel
theorem fl_X6_fit_154 : Cond.fieldLink RX6 154 (TX6 16).1 (TX6 16).2.1 (TX6 16).2.2.1 ∈ wsX6_fit := by decide +kernel
set_option maxHeartbeats 200000 in
set_option maxRecDepth 100000 in
theorem c_X6_fit (l : Launch) {g : GW} {trace : Int64} {value : Nat → Int32} {draft : Nat → Int32} {L : Nat} {nv : Nat} {letter : Nat → Int32} {long1 : Nat → Int32} {feet : Nat → Int32} {sort : Nat → Int32} {order : Nat → Int32} {left : Nat → Int64} {opn : Nat → Int64} {own : Nat → Int32} {other : Nat → Int32} {pick : Nat → Int32} {parts : Int32} {frm : Nat → Int32} {size : Nat → Int32} {isYear : Nat → Int32} {isNext : Nat → Int32} {ways : Nat → Int64} {nextWays : Nat → Int64} {sz : Nat} (pi : Int32) (hnv : nv ≤ 10) (hL2 : L ≤ 40) (hle : okV long1 nv 1 8) (hd : dW 19 g.2.2) : Met l yX6_fit wsX6_fit ({ frames := 1, cells := 0, slots := 0, locals := 25 }) (va_Pc ([.ref (g.2.2 0), .int (pi)]) (qW g (wM g trace value draft (nI (L)) (nI (nv)) letter long1 feet sort order left opn own other pick parts frm size isYear isNext ways nextWays) sz)) (va_Qi (fun (r : Int32) (z : (Nat → Int32) × (Nat → Int32) × Int32) => r = aFit draft letter long1 L nv pi) (fun (z : (Nat → Int32) × (Nat → Int32) × Int32) (t : State) => va_P g.1 vwCl (wM g trace value draft (nI (L)) (nI (nv)) letter long1 feet sort order left opn own other pick (z.2.2) (z.1) (z.2.1) isYear isNext ways nextWays) t.heap) (aW 19 g.2.2 sz)) 0 0 (aW 19 g.2.2 sz) := by
  refine Met.ofW (cc := cX6_fit) (maxL := 4) (ret := (some .int)) (by decide) rfl ?_
  intro p e s m args below meth c s₁ B hml hv
  obtain ⟨rfl, hsz9, hP, hK, hN⟩ := hv
  subst hsz9
  have hx := B.exec
  have hb := B.bytes
  have hr := B.returns
  have hts := atoms_spec (ws := wsX6_fit) B.pre
  have hown : s.vm.findClass RX6 = some m.cls := findClass_of_methodNamed B.named
  have hlocks := B.notSynchronized
  have hS : va_S (aW 19 g.2.2 s.heap.size) s.heap s.heap [] := va_S.rf
  have hl := lv_entry ([.ref (g.2.2 0), .int (pi)]) (n := 4) (Nat.le_of_ble_eq_true rfl)
  rw [lg_entry_eq]
  generalize (lg_sl ([.ref (g.2.2 0), .int (pi)]) ++ List.replicate (4 - (lg_sl ([.ref (g.2.2 0), .int (pi)])).length) Slot.unset).toArray = ls at hl ⊢
  have hl : lv_has ls 4 [(0, .ref (g.2.2 0)), (1, .int (pi))] := hl
  have hp20 := pn_room draft L
  have h31 := sub1_toInt (a := pn draft L) (by omega)
  refine lv_aload_n hx hb dX6_fit_0 rfl (lv_at hl 0 rfl) ?_
  refine lv_iconst (v := (nI (0))) hx hb dX6_fit_1 (by decide) ?_
  refine an_put (ci := 6) (v := .int (nI (0))) (ty := .int) (C := RX6) (T := TX6) (N := 23) (ws' := (wM g trace value draft (nI (L)) (nI (nv)) letter long1 feet sort order left opn own other pick parts frm size isYear isNext ways nextWays)) hx hb hts iw_X6_fit_X6 tyX6 tyX6_ok nmX6 hown hK hP (wM_D hd) hS 0 rfl rfl 0 (by decide) (hts _ fl_X6_fit_67) rfl (by decide +kernel) (rfl) (rfl) (Nat.le_of_ble_eq_true rfl) rfl dX6_fit_2 (fun H locs hP hS => ?_)
  refine lv_aload_n hx hb dX6_fit_5 rfl (lv_at hl 0 rfl) ?_
  refine wr_callv (w := (fun (z : (Nat → Int32) × (Nat → Int32) × Int32) => (wM g trace value draft (nI (L)) (nI (nv)) letter long1 feet sort order left opn own other pick (z.2.2) (z.1) (z.2.1) isYear isNext ways nextWays))) (va_runV (As := []) (rest := []) ⟨hx, hb, hml, hown, hts⟩ (c_X6_parts l (g := g) (trace := trace) (value := value) (draft := draft) (L := L) (vocables := nI (nv)) (letter := letter) (long1 := long1) (feet := feet) (sort := sort) (order := order) (left := left) (opn := opn) (own := own) (other := other) (pick := pick) (parts := parts) (frm := frm) (size := size) (isYear := isYear) (isNext := isNext) (ways := ways) (nextWays := nextWays) (sz := _)  hL2 hd) (cwV 0 hts gX6_fit_X6_parts rfl rfl rfl (by decide +kernel) ⟨Nat.le_of_ble_eq_true rfl, Nat.le_of_ble_eq_true rfl⟩) (pre_V qW_bl (va_recv hK hP (ci := 6) (q0 := 0) rfl rfl) (fun U hU hW => ⟨by rw [hU], pW_of hP hK hN hU hW⟩)) rfl rfl hl.1 rfl (lv_room (Nat.le_of_ble_eq_true rfl)) dX6_fit_6 ⟨Nat.zero_le _, Nat.zero_le _⟩) hS (fun z6 H locs hp6 hP hS => ?_)
  obtain ⟨frm6, size6, parts6⟩ := z6
  try dsimp only at hp6
  have hP : va_P g.1 vwCl (wM g trace value draft (nI (L)) (nI (nv)) letter long1 feet sort order left opn own other pick parts6 frm6 size6 isYear isNext ways nextWays) H := hP
  obtain ⟨hq1, hq2⟩ := hp6
  subst hq1
  refine lv_iload_n hx hb dX6_fit_9 rfl (lv_at hl 1 rfl) ?_
  refine lv_i2l hx hb dX6_fit_10 rfl ?_
  refine lv_lconst (v := (lN (0))) hx hb dX6_fit_11 (by decide) ?_
  refine lv_aload_n hx hb dX6_fit_12 rfl (lv_at hl 0 rfl) ?_
  refine an_get (ci := 6) (v := .int (nI (pn draft L))) (C := RX6) (T := TX6) (N := 23) hx hb hts iw_X6_fit_X6 hown hK hP 0 rfl rfl 16 (by decide) (hts _ fl_X6_fit_154) rfl dX6_fit_13 ?_
  refine lv_iconst (v := (nI (1))) hx hb dX6_fit_16 (by decide) ?_
  refine lv_isub hx hb dX6_fit_17 ?_
  refine lv_i2l hx hb dX6_fit_18 rfl ?_
  refine ro_call (va_runS (As := [.long ((pi).toInt64), .long (lN (0)), .long (((nI (pn draft L)) - (nI (1))).toInt64)]) (rest := []) ⟨hx, hb, hml, hown, hts⟩ (c_X6_in_w l ((pi)) (0) (((nI (pn draft L)) - (nI (1)))) (by decide)) (va_cwS 3 hts gX6_fit_X6_in rfl rfl rfl (by decide +kernel) ⟨Nat.le_of_ble_eq_true rfl, Nat.le_of_ble_eq_true rfl⟩) pre_0 rfl rfl hl.1 rfl (lv_room (Nat.le_of_ble_eq_true rfl)) dX6_fit_19 ⟨Nat.zero_le _, Nat.zero_le _⟩) ?_
  refine lv_if_ne (tgt := 27) hx hb dX6_fit_22 (by decide) (fun c_22 => ?_) (fun c_22 => ?_)
  · have c_22 := if_p c_22
    have h27 : 0 ≤ pi.toInt ∧ pi.toInt < (pn draft L : Int) := by omega
    obtain ⟨j, hj, rfl⟩ := iN_of h27.1 h27.2
    have hjn : tn (nI j) = j := tn_nI (by omega)
    refine lv_iconst (v := (nI (0))) hx hb dX6_fit_27 (by decide) ?_
    refine lv_istore_n (lv' := [(2, .int (nI (0))), (0, .ref (g.2.2 0)), (1, .int (nI (j)))]) hx hb dX6_fit_28 rfl hl (by decide) rfl (fun ls hl => ?_)
    refine lv_iconst (v := (nI (0))) hx hb dX6_fit_29 (by decide) ?_
    refine lv_istore_n (lv' := [(3, .int (nI (0))), (2, .int (nI (0))), (0, .ref (g.2.2 0)), (1, .int (nI (j)))]) hx hb dX6_fit_30 rfl hl (by decide) rfl (fun ls hl => ?_)
    have lp_31 : ∀ (n : Nat) (i : Nat), (i ≤ nv) → nv - i < n → ∀ (H : Heap) (locs : List Loc), va_P g.1 vwCl (wM g trace value draft (nI (L)) (nI (nv)) letter long1 feet sort order left opn own other pick (nI (pn draft L)) frm6 size6 isYear isNext ways nextWays) H → va_S (aW 19 g.2.2 s.heap.size) s.heap H locs → ∀ (ls : Array Slot), lv_has ls 4 [(0, .ref (g.2.2 0)), (1, .int (nI (j))), (2, .int (nI (fitc draft letter long1 L j i))), (3, .int (nI (i)))] → W p l e (headSpec wsX6_fit ({ frames := 1, cells := 0, slots := 0, locals := 25 })).room s m (([.ref (g.2.2 0), .int ((nI (j)))] : List Value).toArray) below meth c H locs 0 0 (MQ below (va_Qi (fun (r : Int32) (z : (Nat → Int32) × (Nat → Int32) × Int32) => r = aFit draft letter long1 L nv (nI (j))) (fun (z : (Nat → Int32) × (Nat → Int32) × Int32) (t : State) => va_P g.1 vwCl (wM g trace value draft (nI (L)) (nI (nv)) letter long1 feet sort order left opn own other pick (z.2.2) (z.1) (z.2.1) isYear isNext ways nextWays) t.heap) (aW 19 g.2.2 s.heap.size)) (([.ref (g.2.2 0), .int ((nI (j)))] : List Value).toArray) s 0 0 (aW 19 g.2.2 s.heap.size)) (F0 m 31 ls []) := by
      intro n
      induction n with
      | zero => intro i hi hm; exact absurd hm (Nat.not_lt_zero _)
      | succ n ih_31 =>
        intro i hi hm_31 H locs hP hS ls hl
        refine lv_iload_n hx hb dX6_fit_31 rfl (lv_at hl 3 rfl) ?_
        refine lv_aload_n hx hb dX6_fit_32 rfl (lv_at hl 0 rfl) ?_
        refine an_get (ci := 6) (v := .int (nI (nv))) (C := RX6) (T := TX6) (N := 23) hx hb hts iw_X6_fit_X6 hown hK hP 0 rfl rfl 5 (by decide) (hts _ fl_X6_fit_124) rfl dX6_fit_33 ?_
        refine lv_icmp_ge (tgt := 62) hx hb dX6_fit_36 (by decide) (fun c_36 => ?_) (fun c_36 => ?_)
        · have c_36 := (cv_le_nn (by omega) (by omega)).mp c_36
          refine lv_iload_n hx hb dX6_fit_62 rfl (lv_at hl 2 rfl) ?_
          exact wr_iret (frm6, size6, nI (pn draft L)) hx hb hr hlocks (by unfold aFit; rw [if_pos h27, hjn, show nv = i by omega]) (fun t ht => show va_P g.1 vwCl (wM g trace value draft (nI (L)) (nI (nv)) letter long1 feet sort order left opn own other pick (nI (pn draft L)) frm6 size6 isYear isNext ways nextWays) t.heap by rw [ht]; exact hP) hS dX6_fit_63
        · have c_36 := (not_congr (cv_le_nn (by omega) (by omega))).mp c_36
          refine lv_iload_n hx hb dX6_fit_39 rfl (lv_at hl 2 rfl) ?_
          refine lv_aload_n hx hb dX6_fit_40 rfl (lv_at hl 0 rfl) ?_
          refine lv_iload_n hx hb dX6_fit_41 rfl (lv_at hl 3 rfl) ?_
          refine lv_iload_n hx hb dX6_fit_42 rfl (lv_at hl 1 rfl) ?_
          refine ro_call (va_runV (As := [.int (nI (i)), .int (nI (j))]) (rest := [.int (nI (fitc draft letter long1 L j i))]) ⟨hx, hb, hml, hown, hts⟩ (c_X6_isFit l (g := g) (trace := trace) (value := value) (draft := draft) (typed := nI (L)) (vocables := nI (nv)) (letter := letter) (long1 := long1) (feet := feet) (sort := sort) (order := order) (left := left) (opn := opn) (own := own) (other := other) (pick := pick) (parts := nI (pn draft L)) (frm := frm6) (size := size6) (isYear := isYear) (isNext := isNext) (ways := ways) (nextWays := nextWays) (i) (j) L nv hnv (by omega) hL2 hj hq2 hle) (cwV 2 hts gX6_fit_X6_isFit rfl rfl rfl (by decide +kernel) ⟨Nat.le_of_ble_eq_true rfl, Nat.le_of_ble_eq_true rfl⟩) (pre_V pW_bl (va_recv hK hP (ci := 6) (q0 := 0) rfl rfl) (fun U hU hW => pW_of hP hK hN hU hW)) rfl rfl hl.1 rfl (lv_room (Nat.le_of_ble_eq_true rfl)) dX6_fit_43 ⟨Nat.zero_le _, Nat.zero_le _⟩) ?_
          refine lv_if_eq (tgt := 53) hx hb dX6_fit_46 (by decide) (fun c_46 => ?_) (fun c_46 => ?_)
          · have c_46 := if_n c_46
            refine lv_iconst (v := (nI (0))) hx hb dX6_fit_53 (by decide) ?_
            refine ln_iadd hx hb dX6_fit_54 ?_
            refine lv_istore_n (lv' := [(2, .int (nI ((fitc draft letter long1 L j i) + 0))), (0, .ref (g.2.2 0)), (1, .int (nI (j))), (3, .int (nI (i)))]) hx hb dX6_fit_55 rfl hl (by decide) rfl (fun ls hl => ?_)
            refine lv_iinc (v := (nI (i + 1))) (lv' := [(3, .int (nI (i + 1))), (2, .int (nI ((fitc draft letter long1 L j i) + 0))), (0, .ref (g.2.2 0)), (1, .int (nI (j)))]) hx hb dX6_fit_56 hl (k := 3) rfl (nI_add _ 1) (by decide) rfl (fun ls hl => ?_)
            refine lv_goto (tgt := 31) hx hb dX6_fit_59 (by decide) ?_
            rw [fitc_n c_46] at hl
            exact ih_31 (i + 1) (by omega) (by omega) _ _ hP hS ls (lv_sub hl [2, 3, 1, 0] rfl)
          · have c_46 := if_p c_46
            refine lv_iconst (v := (nI (1))) hx hb dX6_fit_49 (by decide) ?_
            refine lv_goto (tgt := 54) hx hb dX6_fit_50 (by decide) ?_
            refine ln_iadd hx hb dX6_fit_54 ?_
            refine lv_istore_n (lv' := [(2, .int (nI ((fitc draft letter long1 L j i) + 1))), (0, .ref (g.2.2 0)), (1, .int (nI (j))), (3, .int (nI (i)))]) hx hb dX6_fit_55 rfl hl (by decide) rfl (fun ls hl => ?_)
            refine lv_iinc (v := (nI (i + 1))) (lv' := [(3, .int (nI (i + 1))), (2, .int (nI ((fitc draft letter long1 L j i) + 1))), (0, .ref (g.2.2 0)), (1, .int (nI (j)))]) hx hb dX6_fit_56 hl (k := 3) rfl (nI_add _ 1) (by decide) rfl (fun ls hl => ?_)
            refine lv_goto (tgt := 31) hx hb dX6_fit_59 (by decide) ?_
            rw [fitc_y c_46] at hl
            exact ih_31 (i + 1) (by omega) (by omega) _ _ hP hS ls (lv_sub hl [2, 3, 1, 0] rfl)
    exact lp_31 (nv - (0) + 1) 0 (Nat.zero_le _) (Nat.lt_succ_self _) _ _ hP hS ls (lv_sub hl [2, 3, 1, 0] rfl)
  · have c_22 := if_n c_22
    refine lv_iconst (v := ((-1 : Int32))) hx hb dX6_fit_25 (by decide) ?_
    exact wr_iret (frm6, size6, nI (pn draft L)) hx hb hr hlocks (by unfold aFit; rw [if_neg (by omega)]) (fun t ht => show va_P g.1 vwCl (wM g trace value draft (nI (L)) (nI (nv)) letter long1 feet sort order left opn own other pick (nI (pn draft L)) frm6 size6 isYear isNext ways nextWays) t.heap by rw [ht]; exact hP) hS dX6_fit_26
theorem iw_X6_count_X6 : ∀ w ∈ u_ws RX6 TX6 23, w ∈ wsX6_count := by decide +kernel
theorem fl_X6_count_13 : Cond.fieldLink RX6 13 (TX6 3).1 (TX6 3).2.1 (TX6 3).2.2.1 ∈ wsX6_count := by decide +kernel
theorem fl_X6_count_67 : Cond.fieldLink RX6 67 (TX6 0).1 (TX6 0).2.1 (TX6 0).2.2.1 ∈ wsX6_count := by decide +kernel
theorem fl_X6_count_117 : Cond.fieldLink RX6 117 (TX6 4).1 (TX6 4).2.1 (TX6 4).2.2.1 ∈ wsX6_count := by decide +kernel
theorem fl_X6_count_124 : Cond.fieldLink RX6 124 (TX6 5).1 (TX6 5).2.1 (TX6 5).2.2.1 ∈ wsX6_count := by decide +kernel
theorem fl_X6_count_154 : Cond.fieldLink RX6 154 (TX6 16).1 (TX6 16).2.1 (TX6 16).2.2.1 ∈ wsX6_count := by decide +kernel
set_option maxHeartbeats 200000 in
set_option maxRecDepth 100000 in
theorem c_X6_count (l : Launch) {g : GW} {trace : Int64} {value : Nat → Int32} {draft : Nat → Int32} {L : Nat} {nv : Nat} {letter : Nat → Int32} {long1 : Nat → Int32} {feet : Nat → Int32} {sort : Nat → Int32} {order : Nat → Int32} {left : Nat → Int64} {opn : Nat → Int64} {own : Nat → Int32} {other : Nat → Int32} {pick : Nat → Int32} {parts : Int32} {frm : Nat → Int32} {size : Nat → Int32} {isYear : Nat → Int32} {isNext : Nat → Int32} {ways : Nat → Int64} {nextWays : Nat → Int64} {sz : Nat} (what : Int32) (hL2 : L ≤ 40) (hd : dW 19 g.2.2) : Met l yX6_count wsX6_count ({ frames := 1, cells := 0, slots := 0, locals := 21 }) (va_Pc ([.ref (g.2.2 0), .int (what)]) (qW g (wM g trace value draft (nI (L)) (nI (nv)) letter long1 feet sort order left opn own other pick parts frm size isYear isNext ways nextWays) sz)) (va_Qi (fun (r : Int32) (z : (Nat → Int32) × (Nat → Int32) × Int32) => r = aCount draft nv L what) (fun (z : (Nat → Int32) × (Nat → Int32) × Int32) (t : State) => va_P g.1 vwCl (wM g trace value draft (nI (L)) (nI (nv)) letter long1 feet sort order left opn own other pick (z.2.2) (z.1) (z.2.1) isYear isNext ways nextWays) t.heap) (aW 19 g.2.2 sz)) 0 0 (aW 19 g.2.2 sz) := by
  refine Met.ofW (cc := cX6_count) (maxL := 4) (ret := (some .int)) (by decide) rfl ?_
  intro p e s m args below meth c s₁ B hml hv
  obtain ⟨rfl, hsz9, hP, hK, hN⟩ := hv
  subst hsz9
  have hx := B.exec
  have hb := B.bytes
  have hr := B.returns
  have hts := atoms_spec (ws := wsX6_count) B.pre
  have hown : s.vm.findClass RX6 = some m.cls := findClass_of_methodNamed B.named
  have hlocks := B.notSynchronized
  have hS : va_S (aW 19 g.2.2 s.heap.size) s.heap s.heap [] := va_S.rf
  have hl := lv_entry ([.ref (g.2.2 0), .int (what)]) (n := 4) (Nat.le_of_ble_eq_true rfl)
  rw [lg_entry_eq]
  generalize (lg_sl ([.ref (g.2.2 0), .int (what)]) ++ List.replicate (4 - (lg_sl ([.ref (g.2.2 0), .int (what)])).length) Slot.unset).toArray = ls at hl ⊢
  have hl : lv_has ls 4 [(0, .ref (g.2.2 0)), (1, .int (what))] := hl
  refine lv_aload_n hx hb dX6_count_0 rfl (lv_at hl 0 rfl) ?_
  refine lv_iconst (v := (nI (0))) hx hb dX6_count_1 (by decide) ?_
  refine an_put (ci := 6) (v := .int (nI (0))) (ty := .int) (C := RX6) (T := TX6) (N := 23) (ws' := (wM g trace value draft (nI (L)) (nI (nv)) letter long1 feet sort order left opn own other pick parts frm size isYear isNext ways nextWays)) hx hb hts iw_X6_count_X6 tyX6 tyX6_ok nmX6 hown hK hP (wM_D hd) hS 0 rfl rfl 0 (by decide) (hts _ fl_X6_count_67) rfl (by decide +kernel) (rfl) (rfl) (Nat.le_of_ble_eq_true rfl) rfl dX6_count_2 (fun H locs hP hS => ?_)
  refine lv_aload_n hx hb dX6_count_5 rfl (lv_at hl 0 rfl) ?_
  refine wr_callv (w := (fun (z : (Nat → Int32) × (Nat → Int32) × Int32) => (wM g trace value draft (nI (L)) (nI (nv)) letter long1 feet sort order left opn own other pick (z.2.2) (z.1) (z.2.1) isYear isNext ways nextWays))) (va_runV (As := []) (rest := []) ⟨hx, hb, hml, hown, hts⟩ (c_X6_parts l (g := g) (trace := trace) (value := value) (draft := draft) (L := L) (vocables := nI (nv)) (letter := letter) (long1 := long1) (feet := feet) (sort := sort) (order := order) (left := left) (opn := opn) (own := own) (other := other) (pick := pick) (parts := parts) (frm := frm) (size := size) (isYear := isYear) (isNext := isNext) (ways := ways) (nextWays := nextWays) (sz := _)  hL2 hd) (cwV 0 hts gX6_count_X6_parts rfl rfl rfl (by decide +kernel) ⟨Nat.le_of_ble_eq_true rfl, Nat.le_of_ble_eq_true rfl⟩) (pre_V qW_bl (va_recv hK hP (ci := 6) (q0 := 0) rfl rfl) (fun U hU hW => ⟨by rw [hU], pW_of hP hK hN hU hW⟩)) rfl rfl hl.1 rfl (lv_room (Nat.le_of_ble_eq_true rfl)) dX6_count_6 ⟨Nat.zero_le _, Nat.zero_le _⟩) hS (fun z6 H locs hp6 hP hS => ?_)
  obtain ⟨frm6, size6, parts6⟩ := z6
  try dsimp only at hp6
  have hP : va_P g.1 vwCl (wM g trace value draft (nI (L)) (nI (nv)) letter long1 feet sort order left opn own other pick parts6 frm6 size6 isYear isNext ways nextWays) H := hP
  obtain ⟨hq1, hq2⟩ := hp6
  subst hq1
  refine lv_iconst (v := (nI (0))) hx hb dX6_count_9 (by decide) ?_
  refine lv_istore_n (lv' := [(2, .int (nI (0))), (0, .ref (g.2.2 0)), (1, .int (what))]) hx hb dX6_count_10 rfl hl (by decide) rfl (fun ls hl => ?_)
  refine lv_iconst (v := (nI (0))) hx hb dX6_count_11 (by decide) ?_
  refine lv_istore_n (lv' := [(3, .int (nI (0))), (2, .int (nI (0))), (0, .ref (g.2.2 0)), (1, .int (what))]) hx hb dX6_count_12 rfl hl (by decide) rfl (fun ls hl => ?_)
  have lp_13 : ∀ (n : Nat) (i : Nat), (i ≤ L) → L - i < n → ∀ (H : Heap) (locs : List Loc), va_P g.1 vwCl (wM g trace value draft (nI (L)) (nI (nv)) letter long1 feet sort order left opn own other pick (nI (pn draft L)) frm6 size6 isYear isNext ways nextWays) H → va_S (aW 19 g.2.2 s.heap.size) s.heap H locs → ∀ (ls : Array Slot), lv_has ls 4 [(0, .ref (g.2.2 0)), (1, .int (what)), (2, .int (nI (brk draft i))), (3, .int (nI (i)))] → W p l e (headSpec wsX6_count ({ frames := 1, cells := 0, slots := 0, locals := 21 })).room s m (([.ref (g.2.2 0), .int (what)] : List Value).toArray) below meth c H locs 0 0 (MQ below (va_Qi (fun (r : Int32) (z : (Nat → Int32) × (Nat → Int32) × Int32) => r = aCount draft nv L what) (fun (z : (Nat → Int32) × (Nat → Int32) × Int32) (t : State) => va_P g.1 vwCl (wM g trace value draft (nI (L)) (nI (nv)) letter long1 feet sort order left opn own other pick (z.2.2) (z.1) (z.2.1) isYear isNext ways nextWays) t.heap) (aW 19 g.2.2 s.heap.size)) (([.ref (g.2.2 0), .int (what)] : List Value).toArray) s 0 0 (aW 19 g.2.2 s.heap.size)) (F0 m 13 ls []) := by
    intro n
    induction n with
    | zero => intro i hi hm; exact absurd hm (Nat.not_lt_zero _)
    | succ n ih_13 =>
      intro i hi hm_13 H locs hP hS ls hl
      refine lv_iload_n hx hb dX6_count_13 rfl (lv_at hl 3 rfl) ?_
      refine lv_aload_n hx hb dX6_count_14 rfl (lv_at hl 0 rfl) ?_
      refine an_get (ci := 6) (v := .int (nI (L))) (C := RX6) (T := TX6) (N := 23) hx hb hts iw_X6_count_X6 hown hK hP 0 rfl rfl 4 (by decide) (hts _ fl_X6_count_117) rfl dX6_count_15 ?_
      refine lv_icmp_ge (tgt := 46) hx hb dX6_count_18 (by decide) (fun c_18 => ?_) (fun c_18 => ?_)
      · have c_18 := (cv_le_nn (by omega) (by omega)).mp c_18
        refine lv_iload_n hx hb dX6_count_46 rfl (lv_at hl 1 rfl) ?_
        refine lv_if_ne (tgt := 57) hx hb dX6_count_47 (by decide) (fun c_47 => ?_) (fun c_47 => ?_)
        · have c_47 := (not_congr (cz_eq_i)).mp c_47
          refine lv_iload_n hx hb dX6_count_57 rfl (lv_at hl 1 rfl) ?_
          refine lv_iconst (v := (nI (1))) hx hb dX6_count_58 (by decide) ?_
          refine lv_icmp_ne (tgt := 69) hx hb dX6_count_59 (by decide) (fun c_59 => ?_) (fun c_59 => ?_)
          · have c_59 := (not_congr (cv_eq_in (by omega))).mp c_59
            refine lv_iload_n hx hb dX6_count_69 rfl (lv_at hl 1 rfl) ?_
            refine lv_iconst (v := (nI (2))) hx hb dX6_count_70 (by decide) ?_
            refine lv_icmp_ne (tgt := 81) hx hb dX6_count_71 (by decide) (fun c_71 => ?_) (fun c_71 => ?_)
            · have c_71 := (not_congr (cv_eq_in (by omega))).mp c_71
              refine lv_iload_n hx hb dX6_count_81 rfl (lv_at hl 1 rfl) ?_
              refine lv_iconst (v := (nI (3))) hx hb dX6_count_82 (by decide) ?_
              refine lv_icmp_ne (tgt := 90) hx hb dX6_count_83 (by decide) (fun c_83 => ?_) (fun c_83 => ?_)
              · have c_83 := (not_congr (cv_eq_in (by omega))).mp c_83
                refine lv_iconst (v := ((-1 : Int32))) hx hb dX6_count_90 (by decide) ?_
                exact wr_iret (frm6, size6, nI (pn draft L)) hx hb hr hlocks (by unfold aCount; rw [if_neg (by omega), if_neg (by omega), if_neg (by omega), if_neg (by omega)]) (fun t ht => show va_P g.1 vwCl (wM g trace value draft (nI (L)) (nI (nv)) letter long1 feet sort order left opn own other pick (nI (pn draft L)) frm6 size6 isYear isNext ways nextWays) t.heap by rw [ht]; exact hP) hS dX6_count_91
              · have c_83 := (cv_eq_in (by omega)).mp c_83
                refine lv_iload_n hx hb dX6_count_86 rfl (lv_at hl 2 rfl) ?_
                refine lv_goto (tgt := 91) hx hb dX6_count_87 (by decide) ?_
                exact wr_iret (frm6, size6, nI (pn draft L)) hx hb hr hlocks (by unfold aCount; rw [if_neg (by omega), if_neg (by omega), if_neg (by omega), if_pos (by omega), show L = i by omega]) (fun t ht => show va_P g.1 vwCl (wM g trace value draft (nI (L)) (nI (nv)) letter long1 feet sort order left opn own other pick (nI (pn draft L)) frm6 size6 isYear isNext ways nextWays) t.heap by rw [ht]; exact hP) hS dX6_count_91
            · have c_71 := (cv_eq_in (by omega)).mp c_71
              refine lv_aload_n hx hb dX6_count_74 rfl (lv_at hl 0 rfl) ?_
              refine an_get (ci := 6) (v := .int (nI (pn draft L))) (C := RX6) (T := TX6) (N := 23) hx hb hts iw_X6_count_X6 hown hK hP 0 rfl rfl 16 (by decide) (hts _ fl_X6_count_154) rfl dX6_count_75 ?_
              refine lv_goto (tgt := 91) hx hb dX6_count_78 (by decide) ?_
              exact wr_iret (frm6, size6, nI (pn draft L)) hx hb hr hlocks (by unfold aCount; rw [if_neg (by omega), if_neg (by omega), if_pos (by omega)]) (fun t ht => show va_P g.1 vwCl (wM g trace value draft (nI (L)) (nI (nv)) letter long1 feet sort order left opn own other pick (nI (pn draft L)) frm6 size6 isYear isNext ways nextWays) t.heap by rw [ht]; exact hP) hS dX6_count_91
          · have c_59 := (cv_eq_in (by omega)).mp c_59
            refine lv_aload_n hx hb dX6_count_62 rfl (lv_at hl 0 rfl) ?_
            refine an_get (ci := 6) (v := .int (nI (L))) (C := RX6) (T := TX6) (N := 23) hx hb hts iw_X6_count_X6 hown hK hP 0 rfl rfl 4 (by decide) (hts _ fl_X6_count_117) rfl dX6_count_63 ?_
            refine lv_goto (tgt := 91) hx hb dX6_count_66 (by decide) ?_
            exact wr_iret (frm6, size6, nI (pn draft L)) hx hb hr hlocks (by unfold aCount; rw [if_neg (by omega), if_pos (by omega)]) (fun t ht => show va_P g.1 vwCl (wM g trace value draft (nI (L)) (nI (nv)) letter long1 feet sort order left opn own other pick (nI (pn draft L)) frm6 size6 isYear isNext ways nextWays) t.heap by rw [ht]; exact hP) hS dX6_count_91
        · have c_47 := (cz_eq_i).mp c_47
          refine lv_aload_n hx hb dX6_count_50 rfl (lv_at hl 0 rfl) ?_
          refine an_get (ci := 6) (v := .int (nI (nv))) (C := RX6) (T := TX6) (N := 23) hx hb hts iw_X6_count_X6 hown hK hP 0 rfl rfl 5 (by decide) (hts _ fl_X6_count_124) rfl dX6_count_51 ?_
          refine lv_goto (tgt := 91) hx hb dX6_count_54 (by decide) ?_
          exact wr_iret (frm6, size6, nI (pn draft L)) hx hb hr hlocks (by unfold aCount; rw [if_pos (by omega)]) (fun t ht => show va_P g.1 vwCl (wM g trace value draft (nI (L)) (nI (nv)) letter long1 feet sort order left opn own other pick (nI (pn draft L)) frm6 size6 isYear isNext ways nextWays) t.heap by rw [ht]; exact hP) hS dX6_count_91
      · have c_18 := (not_congr (cv_le_nn (by omega) (by omega))).mp c_18
        refine lv_iload_n hx hb dX6_count_21 rfl (lv_at hl 2 rfl) ?_
        refine lv_aload_n hx hb dX6_count_22 rfl (lv_at hl 0 rfl) ?_
        refine an_get (ci := 6) (v := .ref (g.2.2 2)) (C := RX6) (T := TX6) (N := 23) hx hb hts iw_X6_count_X6 hown hK hP 0 rfl rfl 3 (by decide) (hts _ fl_X6_count_13) rfl dX6_count_23 ?_
        refine lv_iload_n hx hb dX6_count_26 rfl (lv_at hl 3 rfl) ?_
        refine an_iald (f := draft) hx hb hK hP 2 0 rfl rfl (by decide) (by omega) dX6_count_27 ?_
        refine lv_bipush (v := (nI (63))) hx hb dX6_count_28 (by decide) ?_
        refine lv_icmp_ne (tgt := 37) hx hb dX6_count_30 (by decide) (fun c_30 => ?_) (fun c_30 => ?_)
        · have c_30 := (not_congr (cv_eq_in (by omega))).mp c_30
          refine lv_iconst (v := (nI (0))) hx hb dX6_count_37 (by decide) ?_
          refine ln_iadd hx hb dX6_count_38 ?_
          refine lv_istore_n (lv' := [(2, .int (nI ((brk draft i) + 0))), (0, .ref (g.2.2 0)), (1, .int (what)), (3, .int (nI (i)))]) hx hb dX6_count_39 rfl hl (by decide) rfl (fun ls hl => ?_)
          refine lv_iinc (v := (nI (i + 1))) (lv' := [(3, .int (nI (i + 1))), (2, .int (nI ((brk draft i) + 0))), (0, .ref (g.2.2 0)), (1, .int (what))]) hx hb dX6_count_40 hl (k := 3) rfl (nI_add _ 1) (by decide) rfl (fun ls hl => ?_)
          refine lv_goto (tgt := 13) hx hb dX6_count_43 (by decide) ?_
          rw [brk_n c_30] at hl
          exact ih_13 (i + 1) (by omega) (by omega) _ _ hP hS ls (lv_sub hl [2, 3, 1, 0] rfl)
        · have c_30 := (cv_eq_in (by omega)).mp c_30
          refine lv_iconst (v := (nI (1))) hx hb dX6_count_33 (by decide) ?_
          refine lv_goto (tgt := 38) hx hb dX6_count_34 (by decide) ?_
          refine ln_iadd hx hb dX6_count_38 ?_
          refine lv_istore_n (lv' := [(2, .int (nI ((brk draft i) + 1))), (0, .ref (g.2.2 0)), (1, .int (what)), (3, .int (nI (i)))]) hx hb dX6_count_39 rfl hl (by decide) rfl (fun ls hl => ?_)
          refine lv_iinc (v := (nI (i + 1))) (lv' := [(3, .int (nI (i + 1))), (2, .int (nI ((brk draft i) + 1))), (0, .ref (g.2.2 0)), (1, .int (what))]) hx hb dX6_count_40 hl (k := 3) rfl (nI_add _ 1) (by decide) rfl (fun ls hl => ?_)
          refine lv_goto (tgt := 13) hx hb dX6_count_43 (by decide) ?_
          rw [brk_y c_30] at hl
          exact ih_13 (i + 1) (by omega) (by omega) _ _ hP hS ls (lv_sub hl [2, 3, 1, 0] rfl)
  exact lp_13 (L - (0) + 1) 0 (Nat.zero_le _) (Nat.lt_succ_self _) _ _ hP hS ls (lv_sub hl [2, 3, 1, 0] rfl)
theorem iw_X6_type_X6 : ∀ w ∈ u_ws RX6 TX6 23, w ∈ wsX6_type := by decide +kernel
theorem fl_X6_type_13 : Cond.fieldLink RX6 13 (TX6 3).1 (TX6 3).2.1 (TX6 3).2.2.1 ∈ wsX6_type := by decide +kernel
theorem fl_X6_type_67 : Cond.fieldLink RX6 67 (TX6 0).1 (TX6 0).2.1 (TX6 0).2.2.1 ∈ wsX6_type := by decide +kernel
theorem fl_X6_type_117 : Cond.fieldLink RX6 117 (TX6 4).1 (TX6 4).2.1 (TX6 4).2.2.1 ∈ wsX6_type := by decide +kernel
set_option maxHeartbeats 200000 in
set_option maxRecDepth 100000 in
theorem c_X6_type (l : Launch) {g : GW} {trace : Int64} {value : Nat → Int32} {draft : Nat → Int32} {L : Nat} {vocables : Int32} {letter : Nat → Int32} {long1 : Nat → Int32} {feet : Nat → Int32} {sort : Nat → Int32} {order : Nat → Int32} {left : Nat → Int64} {opn : Nat → Int64} {own : Nat → Int32} {other : Nat → Int32} {pick : Nat → Int32} {parts : Int32} {frm : Nat → Int32} {size : Nat → Int32} {isYear : Nat → Int32} {isNext : Nat → Int32} {ways : Nat → Int64} {nextWays : Nat → Int64} {sz : Nat} (v : Int64) (kk : Int32) (hL2 : L ≤ 40) (hd : dW 19 g.2.2) : Met l yX6_type wsX6_type ({ frames := 3, cells := 0, slots := 0, locals := 65 }) (va_Pc ([.ref (g.2.2 0), .long (v), .int (kk)]) (qW g (wM g trace value draft (nI (L)) vocables letter long1 feet sort order left opn own other pick parts frm size isYear isNext ways nextWays) sz)) (va_Qi (fun (r : Int32) (z : (Nat → Int32) × Int32) => (¬ okT v kk ∧ r = (-1 : Int32) ∧ z.1 = draft ∧ z.2 = nI L) ∨ (okT v kk ∧ 40 < L + tn kk ∧ r = (-3 : Int32) ∧ z.1 = draft ∧ z.2 = nI L) ∨ (okT v kk ∧ L + tn kk ≤ 40 ∧ r = nI (L + tn kk) ∧ z.1 = apb draft L v (tn kk) (tn kk) ∧ z.2 = nI (L + tn kk))) (fun (z : (Nat → Int32) × Int32) (t : State) => va_P g.1 vwCl (wM g trace value (z.1) (z.2) vocables letter long1 feet sort order left opn own other pick parts frm size isYear isNext ways nextWays) t.heap) (aW 19 g.2.2 sz)) 0 0 (aW 19 g.2.2 sz) := by
  refine Met.ofW (cc := cX6_type) (maxL := 6) (ret := (some .int)) (by decide) rfl ?_
  intro p e s m args below meth c s₁ B hml hv
  obtain ⟨rfl, hsz9, hP, hK, hN⟩ := hv
  subst hsz9
  have hx := B.exec
  have hb := B.bytes
  have hr := B.returns
  have hts := atoms_spec (ws := wsX6_type) B.pre
  have hown : s.vm.findClass RX6 = some m.cls := findClass_of_methodNamed B.named
  have hlocks := B.notSynchronized
  have hS : va_S (aW 19 g.2.2 s.heap.size) s.heap s.heap [] := va_S.rf
  have hl := lv_entry ([.ref (g.2.2 0), .long (v), .int (kk)]) (n := 6) (Nat.le_of_ble_eq_true rfl)
  rw [lg_entry_eq]
  generalize (lg_sl ([.ref (g.2.2 0), .long (v), .int (kk)]) ++ List.replicate (6 - (lg_sl ([.ref (g.2.2 0), .long (v), .int (kk)])).length) Slot.unset).toArray = ls at hl ⊢
  have hl : lv_has ls 6 [(0, .ref (g.2.2 0)), (1, .long (v)), (3, .int (kk))] := hl
  refine lv_aload_n hx hb dX6_type_0 rfl (lv_at hl 0 rfl) ?_
  refine lv_iconst (v := (nI (0))) hx hb dX6_type_1 (by decide) ?_
  refine an_put (ci := 6) (v := .int (nI (0))) (ty := .int) (C := RX6) (T := TX6) (N := 23) (ws' := (wM g trace value draft (nI (L)) vocables letter long1 feet sort order left opn own other pick parts frm size isYear isNext ways nextWays)) hx hb hts iw_X6_type_X6 tyX6 tyX6_ok nmX6 hown hK hP (wM_D hd) hS 0 rfl rfl 0 (by decide) (hts _ fl_X6_type_67) rfl (by decide +kernel) (rfl) (rfl) (Nat.le_of_ble_eq_true rfl) rfl dX6_type_2 (fun H locs hP hS => ?_)
  refine lv_iload_n hx hb dX6_type_5 rfl (lv_at hl 2 rfl) ?_
  refine lv_i2l hx hb dX6_type_6 rfl ?_
  refine lv_lconst (v := (lN (1))) hx hb dX6_type_7 (by decide) ?_
  refine lv_ldc2 hx hb hown (hts (.constantLong RX6 115 (8)) (by decide +kernel)) dX6_type_8 ?_
  refine ln_tol (y := lN 8) (by decide) ?_
  refine ro_call (va_runS (As := [.long ((kk).toInt64), .long (lN (1)), .long (lN (8))]) (rest := []) ⟨hx, hb, hml, hown, hts⟩ (c_X6_in l ((kk)) (1) (8) (by decide) (by decide)) (va_cwS 3 hts gX6_type_X6_in rfl rfl rfl (by decide +kernel) ⟨Nat.le_of_ble_eq_true rfl, Nat.le_of_ble_eq_true rfl⟩) pre_0 rfl rfl hl.1 rfl (lv_room (Nat.le_of_ble_eq_true rfl)) dX6_type_11 ⟨Nat.zero_le _, Nat.zero_le _⟩) ?_
  refine lv_if_ne (tgt := 19) hx hb dX6_type_14 (by decide) (fun c_14 => ?_) (fun c_14 => ?_)
  · have c_14 := if_p c_14
    obtain ⟨n0, hn0, rfl⟩ := iN_of (x := kk) (b := 9) (by omega) (by omega)
    have hkt : (nI n0).toInt = (n0 : Int) := nI_toInt (by omega)
    have hkn : tn (nI n0) = n0 := tn_nI (by omega)
    refine lv_iconst (v := (nI (0))) hx hb dX6_type_19 (by decide) ?_
    refine lv_istore (lv' := [(4, .int (nI (0))), (0, .ref (g.2.2 0)), (1, .long (v)), (3, .int (nI (n0)))]) hx hb dX6_type_20 hl (by decide) rfl (fun ls hl => ?_)
    have lp_22 : ∀ (n : Nat) (i : Nat), (i ≤ n0) → (∀ j, j < i → okb (byt v j)) → n0 - i < n → ∀ (H : Heap) (locs : List Loc), va_P g.1 vwCl (wM g trace value draft (nI (L)) vocables letter long1 feet sort order left opn own other pick parts frm size isYear isNext ways nextWays) H → va_S (aW 19 g.2.2 s.heap.size) s.heap H locs → ∀ (ls : Array Slot), lv_has ls 6 [(0, .ref (g.2.2 0)), (1, .long (v)), (3, .int (nI (n0))), (4, .int (nI (i)))] → W p l e (headSpec wsX6_type ({ frames := 3, cells := 0, slots := 0, locals := 65 })).room s m (([.ref (g.2.2 0), .long (v), .int ((nI (n0)))] : List Value).toArray) below meth c H locs 0 0 (MQ below (va_Qi (fun (r : Int32) (z : (Nat → Int32) × Int32) => (¬ okT v (nI (n0)) ∧ r = (-1 : Int32) ∧ z.1 = draft ∧ z.2 = nI L) ∨ (okT v (nI (n0)) ∧ 40 < L + tn (nI (n0)) ∧ r = (-3 : Int32) ∧ z.1 = draft ∧ z.2 = nI L) ∨ (okT v (nI (n0)) ∧ L + tn (nI (n0)) ≤ 40 ∧ r = nI (L + tn (nI (n0))) ∧ z.1 = apb draft L v (tn (nI (n0))) (tn (nI (n0))) ∧ z.2 = nI (L + tn (nI (n0))))) (fun (z : (Nat → Int32) × Int32) (t : State) => va_P g.1 vwCl (wM g trace value (z.1) (z.2) vocables letter long1 feet sort order left opn own other pick parts frm size isYear isNext ways nextWays) t.heap) (aW 19 g.2.2 s.heap.size)) (([.ref (g.2.2 0), .long (v), .int ((nI (n0)))] : List Value).toArray) s 0 0 (aW 19 g.2.2 s.heap.size)) (F0 m 22 ls []) := by
      intro n
      induction n with
      | zero => intro i hi ho hm; exact absurd hm (Nat.not_lt_zero _)
      | succ n ih_22 =>
        intro i hi ho hm_22 H locs hP hS ls hl
        refine lv_iload hx hb dX6_type_22 (lv_at hl 3 rfl) ?_
        refine lv_iload_n hx hb dX6_type_24 rfl (lv_at hl 2 rfl) ?_
        refine lv_icmp_ge (tgt := 72) hx hb dX6_type_25 (by decide) (fun c_25 => ?_) (fun c_25 => ?_)
        · have c_25 := (cv_le_nn (by omega) (by omega)).mp c_25
          refine lv_aload_n hx hb dX6_type_72 rfl (lv_at hl 0 rfl) ?_
          refine an_get (ci := 6) (v := .int (nI (L))) (C := RX6) (T := TX6) (N := 23) hx hb hts iw_X6_type_X6 hown hK hP 0 rfl rfl 4 (by decide) (hts _ fl_X6_type_117) rfl dX6_type_73 ?_
          refine lv_iload_n hx hb dX6_type_76 rfl (lv_at hl 2 rfl) ?_
          refine ln_iadd hx hb dX6_type_77 ?_
          refine lv_bipush (v := (nI (40))) hx hb dX6_type_78 (by decide) ?_
          refine lv_icmp_le (tgt := 86) hx hb dX6_type_80 (by decide) (fun c_80 => ?_) (fun c_80 => ?_)
          · have c_80 := (cv_le_nn (by omega) (by omega)).mp c_80
            refine lv_iload_n hx hb dX6_type_86 rfl (lv_at hl 2 rfl) ?_
            refine lv_iconst (v := (nI (1))) hx hb dX6_type_87 (by decide) ?_
            refine lv_isub hx hb dX6_type_88 ?_
            refine lv_istore (lv' := [(4, .int ((nI (n0)) - (nI (1)))), (0, .ref (g.2.2 0)), (1, .long (v)), (3, .int (nI (n0)))]) hx hb dX6_type_89 hl (by decide) rfl (fun ls hl => ?_)
            have lp_91 : ∀ (n : Nat) (i2 : Nat), (i2 ≤ n0) → n0 - i2 < n → ∀ (H : Heap) (locs : List Loc), va_P g.1 vwCl (wM g trace value (apb draft L v n0 i2) (nI (L + i2)) vocables letter long1 feet sort order left opn own other pick parts frm size isYear isNext ways nextWays) H → va_S (aW 19 g.2.2 s.heap.size) s.heap H locs → ∀ (ls : Array Slot), lv_has ls 6 [(0, .ref (g.2.2 0)), (1, .long (v)), (3, .int (nI (n0))), (4, .int (nI (n0 - i2) - nI 1))] → W p l e (headSpec wsX6_type ({ frames := 3, cells := 0, slots := 0, locals := 65 })).room s m (([.ref (g.2.2 0), .long (v), .int ((nI (n0)))] : List Value).toArray) below meth c H locs 0 0 (MQ below (va_Qi (fun (r : Int32) (z : (Nat → Int32) × Int32) => (¬ okT v (nI (n0)) ∧ r = (-1 : Int32) ∧ z.1 = draft ∧ z.2 = nI L) ∨ (okT v (nI (n0)) ∧ 40 < L + tn (nI (n0)) ∧ r = (-3 : Int32) ∧ z.1 = draft ∧ z.2 = nI L) ∨ (okT v (nI (n0)) ∧ L + tn (nI (n0)) ≤ 40 ∧ r = nI (L + tn (nI (n0))) ∧ z.1 = apb draft L v (tn (nI (n0))) (tn (nI (n0))) ∧ z.2 = nI (L + tn (nI (n0))))) (fun (z : (Nat → Int32) × Int32) (t : State) => va_P g.1 vwCl (wM g trace value (z.1) (z.2) vocables letter long1 feet sort order left opn own other pick parts frm size isYear isNext ways nextWays) t.heap) (aW 19 g.2.2 s.heap.size)) (([.ref (g.2.2 0), .long (v), .int ((nI (n0)))] : List Value).toArray) s 0 0 (aW 19 g.2.2 s.heap.size)) (F0 m 91 ls []) := by
              intro n
              induction n with
              | zero => intro i2 hi2 hm; exact absurd hm (Nat.not_lt_zero _)
              | succ n ih_91 =>
                intro i2 hi2 hm_91 H locs hP hS ls hl
                have h30 := sub1_toInt (a := n0 - i2) (by omega)
                refine lv_iload hx hb dX6_type_91 (lv_at hl 3 rfl) ?_
                refine lv_if_lt (tgt := 133) hx hb dX6_type_93 (by decide) (fun c_93 => ?_) (fun c_93 => ?_)
                · have c_93 := (cz_lt_i).mp c_93
                  rw [show i2 = n0 by omega] at hP
                  refine lv_aload_n hx hb dX6_type_133 rfl (lv_at hl 0 rfl) ?_
                  refine an_get (ci := 6) (v := .int (nI (L + n0))) (C := RX6) (T := TX6) (N := 23) hx hb hts iw_X6_type_X6 hown hK hP 0 rfl rfl 4 (by decide) (hts _ fl_X6_type_117) rfl dX6_type_134 ?_
                  exact wr_iret (apb draft L v n0 n0, nI (L + n0)) hx hb hr hlocks (by rw [hkn]; exact Or.inr (Or.inr ⟨⟨by omega, fun j hj => ho j (by rw [hkn] at hj; omega)⟩, by omega, rfl, rfl, rfl⟩)) (fun t ht => show va_P g.1 vwCl (wM g trace value (apb draft L v n0 n0) (nI (L + n0)) vocables letter long1 feet sort order left opn own other pick parts frm size isYear isNext ways nextWays) t.heap by rw [ht]; exact hP) hS dX6_type_137
                · have c_93 := (not_congr (cz_lt_i)).mp c_93
                  rw [pk_sub (show 1 ≤ n0 - i2 by omega)] at hl
                  refine lv_aload_n hx hb dX6_type_96 rfl (lv_at hl 0 rfl) ?_
                  refine an_get (ci := 6) (v := .ref (g.2.2 2)) (C := RX6) (T := TX6) (N := 23) hx hb hts iw_X6_type_X6 hown hK hP 0 rfl rfl 3 (by decide) (hts _ fl_X6_type_13) rfl dX6_type_97 ?_
                  refine lv_aload_n hx hb dX6_type_100 rfl (lv_at hl 0 rfl) ?_
                  refine an_get (ci := 6) (v := .int (nI (L + i2))) (C := RX6) (T := TX6) (N := 23) hx hb hts iw_X6_type_X6 hown hK hP 0 rfl rfl 4 (by decide) (hts _ fl_X6_type_117) rfl dX6_type_101 ?_
                  refine lv_lload_n hx hb dX6_type_104 rfl (lv_at hl 1 rfl) ?_
                  refine lv_bipush (v := (nI (8))) hx hb dX6_type_105 (by decide) ?_
                  refine lv_iload hx hb dX6_type_107 (lv_at hl 3 rfl) ?_
                  refine ln_imul hx hb dX6_type_109 ?_
                  refine lv_lshr hx hb dX6_type_110 rfl ?_
                  refine lv_ldc2 hx hb hown (hts (.constantLong RX6 101 (255)) (by decide +kernel)) dX6_type_111 ?_
                  refine ln_tol (y := lN 255) (by decide) ?_
                  refine lv_land hx hb dX6_type_114 ?_
                  refine lv_l2i hx hb dX6_type_115 rfl ?_
                  refine ln_toi (y := (nI (byt v (n0 - i2 - 1)))) (byt_m v (by omega)) ?_
                  refine an_iast (f := apb draft L v n0 i2) (ws' := (wM g trace value (upd (apb draft L v n0 i2) (L + i2) (nI (byt v (n0 - i2 - 1)))) (nI (L + i2)) vocables letter long1 feet sort order left opn own other pick parts frm size isYear isNext ways nextWays)) hx hb hK hP (wM_D hd) hS 2 0 rfl rfl (by decide) (by omega) rfl dX6_type_116 (fun H locs hP hS => ?_)
                  refine lv_aload_n hx hb dX6_type_117 rfl (lv_at hl 0 rfl) ?_
                  refine lv_dup hx hb dX6_type_118 rfl ?_
                  refine an_get (ci := 6) (v := .int (nI (L + i2))) (C := RX6) (T := TX6) (N := 23) hx hb hts iw_X6_type_X6 hown hK hP 0 rfl rfl 4 (by decide) (hts _ fl_X6_type_117) rfl dX6_type_119 ?_
                  refine lv_iconst (v := (nI (1))) hx hb dX6_type_122 (by decide) ?_
                  refine ln_iadd hx hb dX6_type_123 ?_
                  refine an_put (ci := 6) (v := .int (nI ((L + i2) + 1))) (ty := .int) (C := RX6) (T := TX6) (N := 23) (ws' := (wM g trace value (upd (apb draft L v n0 i2) (L + i2) (nI (byt v (n0 - i2 - 1)))) ((nI ((L + i2) + 1))) vocables letter long1 feet sort order left opn own other pick parts frm size isYear isNext ways nextWays)) hx hb hts iw_X6_type_X6 tyX6 tyX6_ok nmX6 hown hK hP (wM_D hd) hS 0 rfl rfl 4 (by decide) (hts _ fl_X6_type_117) rfl (by decide +kernel) (rfl) (rfl) (Nat.le_of_ble_eq_true rfl) rfl dX6_type_124 (fun H locs hP hS => ?_)
                  refine lv_iinc (v := (nI (n0 - (i2 + 1)) - nI 1)) (lv' := [(4, .int (nI (n0 - (i2 + 1)) - nI 1)), (0, .ref (g.2.2 0)), (1, .long (v)), (3, .int (nI (n0)))]) hx hb dX6_type_127 hl (k := 3) rfl (inc_m1 (by omega)) (by decide) rfl (fun ls hl => ?_)
                  refine lv_goto (tgt := 91) hx hb dX6_type_130 (by decide) ?_
                  exact ih_91 (i2 + 1) (by omega) (by omega) _ _ hP hS ls (lv_sub hl [1, 2, 3, 0] rfl)
            exact lp_91 (n0 - (0) + 1) 0 (Nat.zero_le _) (Nat.lt_succ_self _) _ _ hP hS ls (lv_sub hl [1, 2, 3, 0] rfl)
          · have c_80 := (not_congr (cv_le_nn (by omega) (by omega))).mp c_80
            refine lv_bipush (v := ((-3 : Int32))) hx hb dX6_type_83 (by decide) ?_
            exact wr_iret (draft, nI (L)) hx hb hr hlocks (by rw [hkn]; exact Or.inr (Or.inl ⟨⟨by omega, fun j hj => ho j (by rw [hkn] at hj; omega)⟩, by omega, rfl, rfl, rfl⟩)) (fun t ht => show va_P g.1 vwCl (wM g trace value draft (nI (L)) vocables letter long1 feet sort order left opn own other pick parts frm size isYear isNext ways nextWays) t.heap by rw [ht]; exact hP) hS dX6_type_85
        · have c_25 := (not_congr (cv_le_nn (by omega) (by omega))).mp c_25
          refine lv_lload_n hx hb dX6_type_28 rfl (lv_at hl 1 rfl) ?_
          refine lv_bipush (v := (nI (8))) hx hb dX6_type_29 (by decide) ?_
          refine lv_iload hx hb dX6_type_31 (lv_at hl 3 rfl) ?_
          refine ln_imul hx hb dX6_type_33 ?_
          refine lv_lshr hx hb dX6_type_34 rfl ?_
          refine lv_ldc2 hx hb hown (hts (.constantLong RX6 101 (255)) (by decide +kernel)) dX6_type_35 ?_
          refine ln_tol (y := lN 255) (by decide) ?_
          refine lv_land hx hb dX6_type_38 ?_
          refine lv_l2i hx hb dX6_type_39 rfl ?_
          refine ln_toi (y := (nI (byt v i))) (byt_m v (by omega)) ?_
          refine lv_istore (lv' := [(5, .int (nI (byt v i))), (0, .ref (g.2.2 0)), (1, .long (v)), (3, .int (nI (n0))), (4, .int (nI (i)))]) hx hb dX6_type_40 hl (by decide) rfl (fun ls hl => ?_)
          have hby : byt v i < 256 := byt_lt v i
          have hbt : (nI (byt v i)).toInt = ((byt v i : Nat) : Int) := nI_toInt (by omega)
          refine lv_iload hx hb dX6_type_42 (lv_at hl 0 rfl) ?_
          refine ro_call (va_runS (As := [.int (nI (byt v i))]) (rest := []) ⟨hx, hb, hml, hown, hts⟩ (c_X6_isLetter l (nI (byt v i))) (va_cwS 1 hts gX6_type_X6_isLetter rfl rfl rfl (by decide +kernel) ⟨Nat.le_of_ble_eq_true rfl, Nat.le_of_ble_eq_true rfl⟩) pre_0 rfl rfl hl.1 rfl (lv_room (Nat.le_of_ble_eq_true rfl)) dX6_type_44 ⟨Nat.zero_le _, Nat.zero_le _⟩) ?_
          refine lv_if_ne (tgt := 66) hx hb dX6_type_47 (by decide) (fun c_47 => ?_) (fun c_47 => ?_)
          · have c_47 := if_p c_47
            refine lv_iinc (v := (nI (i + 1))) (lv' := [(4, .int (nI (i + 1))), (5, .int (nI (byt v i))), (0, .ref (g.2.2 0)), (1, .long (v)), (3, .int (nI (n0)))]) hx hb dX6_type_66 hl (k := 4) rfl (nI_add _ 1) (by decide) rfl (fun ls hl => ?_)
            refine lv_goto (tgt := 22) hx hb dX6_type_69 (by decide) ?_
            exact ih_22 (i + 1) (by omega) (lt_s ho (by omega)) (by omega) _ _ hP hS ls (lv_sub hl [2, 3, 4, 0] rfl)
          · have c_47 := if_n c_47
            refine lv_iload hx hb dX6_type_50 (lv_at hl 0 rfl) ?_
            refine lv_bipush (v := (nI (32))) hx hb dX6_type_52 (by decide) ?_
            refine lv_icmp_eq (tgt := 66) hx hb dX6_type_54 (by decide) (fun c_54 => ?_) (fun c_54 => ?_)
            · have c_54 := (cv_eq_nn (by omega) (by omega)).mp c_54
              refine lv_iinc (v := (nI (i + 1))) (lv' := [(4, .int (nI (i + 1))), (5, .int (nI (byt v i))), (0, .ref (g.2.2 0)), (1, .long (v)), (3, .int (nI (n0)))]) hx hb dX6_type_66 hl (k := 4) rfl (nI_add _ 1) (by decide) rfl (fun ls hl => ?_)
              refine lv_goto (tgt := 22) hx hb dX6_type_69 (by decide) ?_
              exact ih_22 (i + 1) (by omega) (lt_s ho (by omega)) (by omega) _ _ hP hS ls (lv_sub hl [2, 3, 4, 0] rfl)
            · have c_54 := (not_congr (cv_eq_nn (by omega) (by omega))).mp c_54
              refine lv_iload hx hb dX6_type_57 (lv_at hl 0 rfl) ?_
              refine lv_bipush (v := (nI (63))) hx hb dX6_type_59 (by decide) ?_
              refine lv_icmp_eq (tgt := 66) hx hb dX6_type_61 (by decide) (fun c_61 => ?_) (fun c_61 => ?_)
              · have c_61 := (cv_eq_nn (by omega) (by omega)).mp c_61
                refine lv_iinc (v := (nI (i + 1))) (lv' := [(4, .int (nI (i + 1))), (5, .int (nI (byt v i))), (0, .ref (g.2.2 0)), (1, .long (v)), (3, .int (nI (n0)))]) hx hb dX6_type_66 hl (k := 4) rfl (nI_add _ 1) (by decide) rfl (fun ls hl => ?_)
                refine lv_goto (tgt := 22) hx hb dX6_type_69 (by decide) ?_
                exact ih_22 (i + 1) (by omega) (lt_s ho (by omega)) (by omega) _ _ hP hS ls (lv_sub hl [2, 3, 4, 0] rfl)
              · have c_61 := (not_congr (cv_eq_nn (by omega) (by omega))).mp c_61
                refine lv_iconst (v := ((-1 : Int32))) hx hb dX6_type_64 (by decide) ?_
                exact wr_iret (draft, nI (L)) hx hb hr hlocks (Or.inl ⟨fun q => absurd (q.2 i (by rw [hkn]; omega)) (by omega), rfl, rfl, rfl⟩) (fun t ht => show va_P g.1 vwCl (wM g trace value draft (nI (L)) vocables letter long1 feet sort order left opn own other pick parts frm size isYear isNext ways nextWays) t.heap by rw [ht]; exact hP) hS dX6_type_65
    exact lp_22 (n0 - (0) + 1) 0 (Nat.zero_le _) (fun j hj => absurd hj (Nat.not_lt_zero j)) (Nat.lt_succ_self _) _ _ hP hS ls (lv_sub hl [1, 2, 3, 0] rfl)
  · have c_14 := if_n c_14
    refine lv_iconst (v := ((-1 : Int32))) hx hb dX6_type_17 (by decide) ?_
    exact wr_iret (draft, nI (L)) hx hb hr hlocks (Or.inl ⟨fun q => absurd q.1 (by omega), rfl, rfl, rfl⟩) (fun t ht => show va_P g.1 vwCl (wM g trace value draft (nI (L)) vocables letter long1 feet sort order left opn own other pick parts frm size isYear isNext ways nextWays) t.heap by rw [ht]; exact hP) hS dX6_type_18
theorem iw_X6_vocable_X6 : ∀ w ∈ u_ws RX6 TX6 23, w ∈ wsX6_vocable := by decide +kernel
theorem fl_X6_vocable_13 : Cond.fieldLink RX6 13 (TX6 3).1 (TX6 3).2.1 (TX6 3).2.2.1 ∈ wsX6_vocable := by decide +kernel
theorem fl_X6_vocable_16 : Cond.fieldLink RX6 16 (TX6 6).1 (TX6 6).2.1 (TX6 6).2.2.1 ∈ wsX6_vocable := by decide +kernel
theorem fl_X6_vocable_19 : Cond.fieldLink RX6 19 (TX6 7).1 (TX6 7).2.1 (TX6 7).2.2.1 ∈ wsX6_vocable := by decide +kernel
theorem fl_X6_vocable_22 : Cond.fieldLink RX6 22 (TX6 8).1 (TX6 8).2.1 (TX6 8).2.2.1 ∈ wsX6_vocable := by decide +kernel
theorem fl_X6_vocable_25 : Cond.fieldLink RX6 25 (TX6 9).1 (TX6 9).2.1 (TX6 9).2.2.1 ∈ wsX6_vocable := by decide +kernel
theorem fl_X6_vocable_67 : Cond.fieldLink RX6 67 (TX6 0).1 (TX6 0).2.1 (TX6 0).2.2.1 ∈ wsX6_vocable := by decide +kernel
theorem fl_X6_vocable_117 : Cond.fieldLink RX6 117 (TX6 4).1 (TX6 4).2.1 (TX6 4).2.2.1 ∈ wsX6_vocable := by decide +kernel
theorem fl_X6_vocable_124 : Cond.fieldLink RX6 124 (TX6 5).1 (TX6 5).2.1 (TX6 5).2.2.1 ∈ wsX6_vocable := by decide +kernel
set_option maxHeartbeats 200000 in
set_option maxRecDepth 100000 in
theorem c_X6_vocable (l : Launch) {g : GW} {trace : Int64} {value : Nat → Int32} {draft : Nat → Int32} {L : Nat} {nv : Nat} {letter : Nat → Int32} {long1 : Nat → Int32} {feet : Nat → Int32} {sort : Nat → Int32} {order : Nat → Int32} {left : Nat → Int64} {opn : Nat → Int64} {own : Nat → Int32} {other : Nat → Int32} {pick : Nat → Int32} {parts : Int32} {frm : Nat → Int32} {size : Nat → Int32} {isYear : Nat → Int32} {isNext : Nat → Int32} {ways : Nat → Int64} {nextWays : Nat → Int64} {sz : Nat} (itsFeet : Int32) (itsSort : Int32) (hL2 : L ≤ 40) (hnv : nv ≤ 10) (hd : dW 19 g.2.2) : Met l yX6_vocable wsX6_vocable ({ frames := 3, cells := 0, slots := 0, locals := 65 }) (va_Pc ([.ref (g.2.2 0), .int (itsFeet), .int (itsSort)]) (qW g (wM g trace value draft (nI (L)) (nI (nv)) letter long1 feet sort order left opn own other pick parts frm size isYear isNext ways nextWays) sz)) (va_Qi (fun (r : Int32) (z : (Nat → Int32) × (Nat → Int32) × (Nat → Int32) × (Nat → Int32) × Int32 × Int32) => (¬ vcok itsFeet itsSort ∧ r = (-1 : Int32) ∧ z.1 = letter ∧ z.2.1 = long1 ∧ z.2.2.1 = feet ∧ z.2.2.2.1 = sort ∧ z.2.2.2.2.1 = nI nv ∧ z.2.2.2.2.2 = nI L) ∨ (vcok itsFeet itsSort ∧ ¬ wordy draft L ∧ r = (-2 : Int32) ∧ z.1 = letter ∧ z.2.1 = long1 ∧ z.2.2.1 = feet ∧ z.2.2.2.1 = sort ∧ z.2.2.2.2.1 = nI nv ∧ z.2.2.2.2.2 = nI L) ∨ (vcok itsFeet itsSort ∧ wordy draft L ∧ nv = 10 ∧ r = (-3 : Int32) ∧ z.1 = letter ∧ z.2.1 = long1 ∧ z.2.2.1 = feet ∧ z.2.2.2.1 = sort ∧ z.2.2.2.2.1 = nI nv ∧ z.2.2.2.2.2 = nI L) ∨ (vcok itsFeet itsSort ∧ wordy draft L ∧ nv < 10 ∧ r = nI nv ∧ z.1 = va_cpy draft letter 0 (8 * nv) L ∧ z.2.1 = upd long1 nv (nI L) ∧ z.2.2.1 = upd feet nv itsFeet ∧ z.2.2.2.1 = upd sort nv itsSort ∧ z.2.2.2.2.1 = nI (nv + 1) ∧ z.2.2.2.2.2 = nI 0)) (fun (z : (Nat → Int32) × (Nat → Int32) × (Nat → Int32) × (Nat → Int32) × Int32 × Int32) (t : State) => va_P g.1 vwCl (wM g trace value draft (z.2.2.2.2.2) (z.2.2.2.2.1) (z.1) (z.2.1) (z.2.2.1) (z.2.2.2.1) order left opn own other pick parts frm size isYear isNext ways nextWays) t.heap) (aW 19 g.2.2 sz)) 0 0 (aW 19 g.2.2 sz) := by
  refine Met.ofW (cc := cX6_vocable) (maxL := 5) (ret := (some .int)) (by decide) rfl ?_
  intro p e s m args below meth c s₁ B hml hv
  obtain ⟨rfl, hsz9, hP, hK, hN⟩ := hv
  subst hsz9
  have hx := B.exec
  have hb := B.bytes
  have hr := B.returns
  have hts := atoms_spec (ws := wsX6_vocable) B.pre
  have hown : s.vm.findClass RX6 = some m.cls := findClass_of_methodNamed B.named
  have hlocks := B.notSynchronized
  have hS : va_S (aW 19 g.2.2 s.heap.size) s.heap s.heap [] := va_S.rf
  have hl := lv_entry ([.ref (g.2.2 0), .int (itsFeet), .int (itsSort)]) (n := 5) (Nat.le_of_ble_eq_true rfl)
  rw [lg_entry_eq]
  generalize (lg_sl ([.ref (g.2.2 0), .int (itsFeet), .int (itsSort)]) ++ List.replicate (5 - (lg_sl ([.ref (g.2.2 0), .int (itsFeet), .int (itsSort)])).length) Slot.unset).toArray = ls at hl ⊢
  have hl : lv_has ls 5 [(0, .ref (g.2.2 0)), (1, .int (itsFeet)), (2, .int (itsSort))] := hl
  refine lv_aload_n hx hb dX6_vocable_0 rfl (lv_at hl 0 rfl) ?_
  refine lv_iconst (v := (nI (0))) hx hb dX6_vocable_1 (by decide) ?_
  refine an_put (ci := 6) (v := .int (nI (0))) (ty := .int) (C := RX6) (T := TX6) (N := 23) (ws' := (wM g trace value draft (nI (L)) (nI (nv)) letter long1 feet sort order left opn own other pick parts frm size isYear isNext ways nextWays)) hx hb hts iw_X6_vocable_X6 tyX6 tyX6_ok nmX6 hown hK hP (wM_D hd) hS 0 rfl rfl 0 (by decide) (hts _ fl_X6_vocable_67) rfl (by decide +kernel) (rfl) (rfl) (Nat.le_of_ble_eq_true rfl) rfl dX6_vocable_2 (fun H locs hP hS => ?_)
  refine lv_iload_n hx hb dX6_vocable_5 rfl (lv_at hl 1 rfl) ?_
  refine lv_i2l hx hb dX6_vocable_6 rfl ?_
  refine lv_lconst (v := (lN (1))) hx hb dX6_vocable_7 (by decide) ?_
  refine lv_ldc2 hx hb hown (hts (.constantLong RX6 71 (3)) (by decide +kernel)) dX6_vocable_8 ?_
  refine ln_tol (y := lN 3) (by decide) ?_
  refine ro_call (va_runS (As := [.long ((itsFeet).toInt64), .long (lN (1)), .long (lN (3))]) (rest := []) ⟨hx, hb, hml, hown, hts⟩ (c_X6_in l ((itsFeet)) (1) (3) (by decide) (by decide)) (va_cwS 3 hts gX6_vocable_X6_in rfl rfl rfl (by decide +kernel) ⟨Nat.le_of_ble_eq_true rfl, Nat.le_of_ble_eq_true rfl⟩) pre_0 rfl rfl hl.1 rfl (lv_room (Nat.le_of_ble_eq_true rfl)) dX6_vocable_11 ⟨Nat.zero_le _, Nat.zero_le _⟩) ?_
  refine lv_if_eq (tgt := 29) hx hb dX6_vocable_14 (by decide) (fun c_14 => ?_) (fun c_14 => ?_)
  · have c_14 := if_n c_14
    refine lv_iconst (v := ((-1 : Int32))) hx hb dX6_vocable_29 (by decide) ?_
    exact wr_iret (letter, long1, feet, sort, nI (nv), nI (L)) hx hb hr hlocks (Or.inl ⟨by omega, rfl, rfl, rfl, rfl, rfl, rfl, rfl⟩) (fun t ht => show va_P g.1 vwCl (wM g trace value draft (nI (L)) (nI (nv)) letter long1 feet sort order left opn own other pick parts frm size isYear isNext ways nextWays) t.heap by rw [ht]; exact hP) hS dX6_vocable_30
  · have c_14 := if_p c_14
    refine lv_iload_n hx hb dX6_vocable_17 rfl (lv_at hl 2 rfl) ?_
    refine lv_i2l hx hb dX6_vocable_18 rfl ?_
    refine lv_lconst (v := (lN (0))) hx hb dX6_vocable_19 (by decide) ?_
    refine lv_ldc2 hx hb hown (hts (.constantLong RX6 95 (2)) (by decide +kernel)) dX6_vocable_20 ?_
    refine ln_tol (y := lN 2) (by decide) ?_
    refine ro_call (va_runS (As := [.long ((itsSort).toInt64), .long (lN (0)), .long (lN (2))]) (rest := []) ⟨hx, hb, hml, hown, hts⟩ (c_X6_in l ((itsSort)) (0) (2) (by decide) (by decide)) (va_cwS 3 hts gX6_vocable_X6_in rfl rfl rfl (by decide +kernel) ⟨Nat.le_of_ble_eq_true rfl, Nat.le_of_ble_eq_true rfl⟩) pre_0 rfl rfl hl.1 rfl (lv_room (Nat.le_of_ble_eq_true rfl)) dX6_vocable_23 ⟨Nat.zero_le _, Nat.zero_le _⟩) ?_
    refine lv_if_ne (tgt := 31) hx hb dX6_vocable_26 (by decide) (fun c_26 => ?_) (fun c_26 => ?_)
    · have c_26 := if_p c_26
      refine lv_aload_n hx hb dX6_vocable_31 rfl (lv_at hl 0 rfl) ?_
      refine an_get (ci := 6) (v := .int (nI (L))) (C := RX6) (T := TX6) (N := 23) hx hb hts iw_X6_vocable_X6 hown hK hP 0 rfl rfl 4 (by decide) (hts _ fl_X6_vocable_117) rfl dX6_vocable_32 ?_
      refine lv_i2l (v := lN (L)) hx hb dX6_vocable_35 (nI_l (by omega)) ?_
      refine lv_lconst (v := (lN (1))) hx hb dX6_vocable_36 (by decide) ?_
      refine lv_ldc2 hx hb hown (hts (.constantLong RX6 115 (8)) (by decide +kernel)) dX6_vocable_37 ?_
      refine ln_tol (y := lN 8) (by decide) ?_
      refine ro_call (va_runS (As := [.long (lN (L)), .long (lN (1)), .long (lN (8))]) (rest := []) ⟨hx, hb, hml, hown, hts⟩ (c_X6_in_n l (L) (1) (8) (by omega) (by decide) (by decide)) (va_cwS 3 hts gX6_vocable_X6_in rfl rfl rfl (by decide +kernel) ⟨Nat.le_of_ble_eq_true rfl, Nat.le_of_ble_eq_true rfl⟩) pre_0 rfl rfl hl.1 rfl (lv_room (Nat.le_of_ble_eq_true rfl)) dX6_vocable_40 ⟨Nat.zero_le _, Nat.zero_le _⟩) ?_
      refine ln_toi (y := (if wordi draft L 0 then 1 else 0)) (if_cg ⟨fun q => ⟨q, fun k hk => absurd hk (Nat.not_lt_zero k)⟩, fun q => q.1⟩) ?_
      refine lv_istore_n (lv' := [(3, .int (if wordi draft L 0 then 1 else 0)), (0, .ref (g.2.2 0)), (1, .int (itsFeet)), (2, .int (itsSort))]) hx hb dX6_vocable_43 rfl hl (by decide) rfl (fun ls hl => ?_)
      refine lv_iconst (v := (nI (0))) hx hb dX6_vocable_44 (by decide) ?_
      refine lv_istore (lv' := [(4, .int (nI (0))), (3, .int (if wordi draft L 0 then 1 else 0)), (0, .ref (g.2.2 0)), (1, .int (itsFeet)), (2, .int (itsSort))]) hx hb dX6_vocable_45 hl (by decide) rfl (fun ls hl => ?_)
      have lp_47 : ∀ (n : Nat) (i : Nat), (i ≤ L) → L - i < n → ∀ (H : Heap) (locs : List Loc), va_P g.1 vwCl (wM g trace value draft (nI (L)) (nI (nv)) letter long1 feet sort order left opn own other pick parts frm size isYear isNext ways nextWays) H → va_S (aW 19 g.2.2 s.heap.size) s.heap H locs → ∀ (ls : Array Slot), lv_has ls 5 [(0, .ref (g.2.2 0)), (1, .int (itsFeet)), (2, .int (itsSort)), (3, .int (if wordi draft L i then 1 else 0)), (4, .int (nI (i)))] → W p l e (headSpec wsX6_vocable ({ frames := 3, cells := 0, slots := 0, locals := 65 })).room s m (([.ref (g.2.2 0), .int (itsFeet), .int (itsSort)] : List Value).toArray) below meth c H locs 0 0 (MQ below (va_Qi (fun (r : Int32) (z : (Nat → Int32) × (Nat → Int32) × (Nat → Int32) × (Nat → Int32) × Int32 × Int32) => (¬ vcok itsFeet itsSort ∧ r = (-1 : Int32) ∧ z.1 = letter ∧ z.2.1 = long1 ∧ z.2.2.1 = feet ∧ z.2.2.2.1 = sort ∧ z.2.2.2.2.1 = nI nv ∧ z.2.2.2.2.2 = nI L) ∨ (vcok itsFeet itsSort ∧ ¬ wordy draft L ∧ r = (-2 : Int32) ∧ z.1 = letter ∧ z.2.1 = long1 ∧ z.2.2.1 = feet ∧ z.2.2.2.1 = sort ∧ z.2.2.2.2.1 = nI nv ∧ z.2.2.2.2.2 = nI L) ∨ (vcok itsFeet itsSort ∧ wordy draft L ∧ nv = 10 ∧ r = (-3 : Int32) ∧ z.1 = letter ∧ z.2.1 = long1 ∧ z.2.2.1 = feet ∧ z.2.2.2.1 = sort ∧ z.2.2.2.2.1 = nI nv ∧ z.2.2.2.2.2 = nI L) ∨ (vcok itsFeet itsSort ∧ wordy draft L ∧ nv < 10 ∧ r = nI nv ∧ z.1 = va_cpy draft letter 0 (8 * nv) L ∧ z.2.1 = upd long1 nv (nI L) ∧ z.2.2.1 = upd feet nv itsFeet ∧ z.2.2.2.1 = upd sort nv itsSort ∧ z.2.2.2.2.1 = nI (nv + 1) ∧ z.2.2.2.2.2 = nI 0)) (fun (z : (Nat → Int32) × (Nat → Int32) × (Nat → Int32) × (Nat → Int32) × Int32 × Int32) (t : State) => va_P g.1 vwCl (wM g trace value draft (z.2.2.2.2.2) (z.2.2.2.2.1) (z.1) (z.2.1) (z.2.2.1) (z.2.2.2.1) order left opn own other pick parts frm size isYear isNext ways nextWays) t.heap) (aW 19 g.2.2 s.heap.size)) (([.ref (g.2.2 0), .int (itsFeet), .int (itsSort)] : List Value).toArray) s 0 0 (aW 19 g.2.2 s.heap.size)) (F0 m 47 ls []) := by
        intro n
        induction n with
        | zero => intro i hi hm; exact absurd hm (Nat.not_lt_zero _)
        | succ n ih_47 =>
          intro i hi hm_47 H locs hP hS ls hl
          refine lv_iload hx hb dX6_vocable_47 (lv_at hl 4 rfl) ?_
          refine lv_aload_n hx hb dX6_vocable_49 rfl (lv_at hl 0 rfl) ?_
          refine an_get (ci := 6) (v := .int (nI (L))) (C := RX6) (T := TX6) (N := 23) hx hb hts iw_X6_vocable_X6 hown hK hP 0 rfl rfl 4 (by decide) (hts _ fl_X6_vocable_117) rfl dX6_vocable_50 ?_
          refine lv_icmp_ge (tgt := 75) hx hb dX6_vocable_53 (by decide) (fun c_53 => ?_) (fun c_53 => ?_)
          · have c_53 := (cv_le_nn (by omega) (by omega)).mp c_53
            have e75 : i = L := by omega
            refine lv_iload_n hx hb dX6_vocable_75 rfl (lv_at hl 3 rfl) ?_
            refine lv_if_ne (tgt := 82) hx hb dX6_vocable_76 (by decide) (fun c_76 => ?_) (fun c_76 => ?_)
            · have c_76 := if_p c_76
              refine lv_aload_n hx hb dX6_vocable_82 rfl (lv_at hl 0 rfl) ?_
              refine an_get (ci := 6) (v := .int (nI (nv))) (C := RX6) (T := TX6) (N := 23) hx hb hts iw_X6_vocable_X6 hown hK hP 0 rfl rfl 5 (by decide) (hts _ fl_X6_vocable_124) rfl dX6_vocable_83 ?_
              refine lv_bipush (v := (nI (10))) hx hb dX6_vocable_86 (by decide) ?_
              refine lv_icmp_ne (tgt := 94) hx hb dX6_vocable_88 (by decide) (fun c_88 => ?_) (fun c_88 => ?_)
              · have c_88 := (not_congr (cv_eq_nn (by omega) (by omega))).mp c_88
                have hw8 := c_76.1
                refine lv_iconst (v := (nI (0))) hx hb dX6_vocable_94 (by decide) ?_
                refine lv_istore (lv' := [(4, .int (nI (0))), (0, .ref (g.2.2 0)), (1, .int (itsFeet)), (2, .int (itsSort)), (3, .int (if wordi draft L i then 1 else 0))]) hx hb dX6_vocable_95 hl (by decide) rfl (fun ls hl => ?_)
                rw [← cpy_0 (f := draft) (g := letter) (b := 8 * nv)] at hP
                have lp_97 : ∀ (n : Nat) (i2 : Nat), (i2 ≤ L) → L - i2 < n → ∀ (H : Heap) (locs : List Loc), va_P g.1 vwCl (wM g trace value draft (nI (L)) (nI (nv)) (va_cpy draft letter 0 (8 * nv) i2) long1 feet sort order left opn own other pick parts frm size isYear isNext ways nextWays) H → va_S (aW 19 g.2.2 s.heap.size) s.heap H locs → ∀ (ls : Array Slot), lv_has ls 5 [(0, .ref (g.2.2 0)), (1, .int (itsFeet)), (2, .int (itsSort)), (3, .int (if wordi draft L i then 1 else 0)), (4, .int (nI (i2)))] → W p l e (headSpec wsX6_vocable ({ frames := 3, cells := 0, slots := 0, locals := 65 })).room s m (([.ref (g.2.2 0), .int (itsFeet), .int (itsSort)] : List Value).toArray) below meth c H locs 0 0 (MQ below (va_Qi (fun (r : Int32) (z : (Nat → Int32) × (Nat → Int32) × (Nat → Int32) × (Nat → Int32) × Int32 × Int32) => (¬ vcok itsFeet itsSort ∧ r = (-1 : Int32) ∧ z.1 = letter ∧ z.2.1 = long1 ∧ z.2.2.1 = feet ∧ z.2.2.2.1 = sort ∧ z.2.2.2.2.1 = nI nv ∧ z.2.2.2.2.2 = nI L) ∨ (vcok itsFeet itsSort ∧ ¬ wordy draft L ∧ r = (-2 : Int32) ∧ z.1 = letter ∧ z.2.1 = long1 ∧ z.2.2.1 = feet ∧ z.2.2.2.1 = sort ∧ z.2.2.2.2.1 = nI nv ∧ z.2.2.2.2.2 = nI L) ∨ (vcok itsFeet itsSort ∧ wordy draft L ∧ nv = 10 ∧ r = (-3 : Int32) ∧ z.1 = letter ∧ z.2.1 = long1 ∧ z.2.2.1 = feet ∧ z.2.2.2.1 = sort ∧ z.2.2.2.2.1 = nI nv ∧ z.2.2.2.2.2 = nI L) ∨ (vcok itsFeet itsSort ∧ wordy draft L ∧ nv < 10 ∧ r = nI nv ∧ z.1 = va_cpy draft letter 0 (8 * nv) L ∧ z.2.1 = upd long1 nv (nI L) ∧ z.2.2.1 = upd feet nv itsFeet ∧ z.2.2.2.1 = upd sort nv itsSort ∧ z.2.2.2.2.1 = nI (nv + 1) ∧ z.2.2.2.2.2 = nI 0)) (fun (z : (Nat → Int32) × (Nat → Int32) × (Nat → Int32) × (Nat → Int32) × Int32 × Int32) (t : State) => va_P g.1 vwCl (wM g trace value draft (z.2.2.2.2.2) (z.2.2.2.2.1) (z.1) (z.2.1) (z.2.2.1) (z.2.2.2.1) order left opn own other pick parts frm size isYear isNext ways nextWays) t.heap) (aW 19 g.2.2 s.heap.size)) (([.ref (g.2.2 0), .int (itsFeet), .int (itsSort)] : List Value).toArray) s 0 0 (aW 19 g.2.2 s.heap.size)) (F0 m 97 ls []) := by
                  intro n
                  induction n with
                  | zero => intro i2 hi2 hm; exact absurd hm (Nat.not_lt_zero _)
                  | succ n ih_97 =>
                    intro i2 hi2 hm_97 H locs hP hS ls hl
                    refine lv_iload hx hb dX6_vocable_97 (lv_at hl 4 rfl) ?_
                    refine lv_aload_n hx hb dX6_vocable_99 rfl (lv_at hl 0 rfl) ?_
                    refine an_get (ci := 6) (v := .int (nI (L))) (C := RX6) (T := TX6) (N := 23) hx hb hts iw_X6_vocable_X6 hown hK hP 0 rfl rfl 4 (by decide) (hts _ fl_X6_vocable_117) rfl dX6_vocable_100 ?_
                    refine lv_icmp_ge (tgt := 134) hx hb dX6_vocable_103 (by decide) (fun c_103 => ?_) (fun c_103 => ?_)
                    · have c_103 := (cv_le_nn (by omega) (by omega)).mp c_103
                      refine lv_aload_n hx hb dX6_vocable_134 rfl (lv_at hl 0 rfl) ?_
                      refine an_get (ci := 6) (v := .ref (g.2.2 4)) (C := RX6) (T := TX6) (N := 23) hx hb hts iw_X6_vocable_X6 hown hK hP 0 rfl rfl 7 (by decide) (hts _ fl_X6_vocable_19) rfl dX6_vocable_135 ?_
                      refine lv_aload_n hx hb dX6_vocable_138 rfl (lv_at hl 0 rfl) ?_
                      refine an_get (ci := 6) (v := .int (nI (nv))) (C := RX6) (T := TX6) (N := 23) hx hb hts iw_X6_vocable_X6 hown hK hP 0 rfl rfl 5 (by decide) (hts _ fl_X6_vocable_124) rfl dX6_vocable_139 ?_
                      refine lv_aload_n hx hb dX6_vocable_142 rfl (lv_at hl 0 rfl) ?_
                      refine an_get (ci := 6) (v := .int (nI (L))) (C := RX6) (T := TX6) (N := 23) hx hb hts iw_X6_vocable_X6 hown hK hP 0 rfl rfl 4 (by decide) (hts _ fl_X6_vocable_117) rfl dX6_vocable_143 ?_
                      refine an_iast (f := long1) (ws' := (wM g trace value draft (nI (L)) (nI (nv)) (va_cpy draft letter 0 (8 * nv) i2) (upd (long1) (nv) (nI (L))) feet sort order left opn own other pick parts frm size isYear isNext ways nextWays)) hx hb hK hP (wM_D hd) hS 4 0 rfl rfl (by decide) (by omega) rfl dX6_vocable_146 (fun H locs hP hS => ?_)
                      refine lv_aload_n hx hb dX6_vocable_147 rfl (lv_at hl 0 rfl) ?_
                      refine an_get (ci := 6) (v := .ref (g.2.2 5)) (C := RX6) (T := TX6) (N := 23) hx hb hts iw_X6_vocable_X6 hown hK hP 0 rfl rfl 8 (by decide) (hts _ fl_X6_vocable_22) rfl dX6_vocable_148 ?_
                      refine lv_aload_n hx hb dX6_vocable_151 rfl (lv_at hl 0 rfl) ?_
                      refine an_get (ci := 6) (v := .int (nI (nv))) (C := RX6) (T := TX6) (N := 23) hx hb hts iw_X6_vocable_X6 hown hK hP 0 rfl rfl 5 (by decide) (hts _ fl_X6_vocable_124) rfl dX6_vocable_152 ?_
                      refine lv_iload_n hx hb dX6_vocable_155 rfl (lv_at hl 1 rfl) ?_
                      refine an_iast (f := feet) (ws' := (wM g trace value draft (nI (L)) (nI (nv)) (va_cpy draft letter 0 (8 * nv) i2) (upd (long1) (nv) (nI (L))) (upd (feet) (nv) (itsFeet)) sort order left opn own other pick parts frm size isYear isNext ways nextWays)) hx hb hK hP (wM_D hd) hS 5 0 rfl rfl (by decide) (by omega) rfl dX6_vocable_156 (fun H locs hP hS => ?_)
                      refine lv_aload_n hx hb dX6_vocable_157 rfl (lv_at hl 0 rfl) ?_
                      refine an_get (ci := 6) (v := .ref (g.2.2 6)) (C := RX6) (T := TX6) (N := 23) hx hb hts iw_X6_vocable_X6 hown hK hP 0 rfl rfl 9 (by decide) (hts _ fl_X6_vocable_25) rfl dX6_vocable_158 ?_
                      refine lv_aload_n hx hb dX6_vocable_161 rfl (lv_at hl 0 rfl) ?_
                      refine an_get (ci := 6) (v := .int (nI (nv))) (C := RX6) (T := TX6) (N := 23) hx hb hts iw_X6_vocable_X6 hown hK hP 0 rfl rfl 5 (by decide) (hts _ fl_X6_vocable_124) rfl dX6_vocable_162 ?_
                      refine lv_iload_n hx hb dX6_vocable_165 rfl (lv_at hl 2 rfl) ?_
                      refine an_iast (f := sort) (ws' := (wM g trace value draft (nI (L)) (nI (nv)) (va_cpy draft letter 0 (8 * nv) i2) (upd (long1) (nv) (nI (L))) (upd (feet) (nv) (itsFeet)) (upd (sort) (nv) (itsSort)) order left opn own other pick parts frm size isYear isNext ways nextWays)) hx hb hK hP (wM_D hd) hS 6 0 rfl rfl (by decide) (by omega) rfl dX6_vocable_166 (fun H locs hP hS => ?_)
                      refine lv_aload_n hx hb dX6_vocable_167 rfl (lv_at hl 0 rfl) ?_
                      refine lv_iconst (v := (nI (0))) hx hb dX6_vocable_168 (by decide) ?_
                      refine an_put (ci := 6) (v := .int (nI (0))) (ty := .int) (C := RX6) (T := TX6) (N := 23) (ws' := (wM g trace value draft ((nI (0))) (nI (nv)) (va_cpy draft letter 0 (8 * nv) i2) (upd (long1) (nv) (nI (L))) (upd (feet) (nv) (itsFeet)) (upd (sort) (nv) (itsSort)) order left opn own other pick parts frm size isYear isNext ways nextWays)) hx hb hts iw_X6_vocable_X6 tyX6 tyX6_ok nmX6 hown hK hP (wM_D hd) hS 0 rfl rfl 4 (by decide) (hts _ fl_X6_vocable_117) rfl (by decide +kernel) (rfl) (rfl) (Nat.le_of_ble_eq_true rfl) rfl dX6_vocable_169 (fun H locs hP hS => ?_)
                      refine lv_aload_n hx hb dX6_vocable_172 rfl (lv_at hl 0 rfl) ?_
                      refine lv_dup hx hb dX6_vocable_173 rfl ?_
                      refine an_get (ci := 6) (v := .int (nI (nv))) (C := RX6) (T := TX6) (N := 23) hx hb hts iw_X6_vocable_X6 hown hK hP 0 rfl rfl 5 (by decide) (hts _ fl_X6_vocable_124) rfl dX6_vocable_174 ?_
                      refine lv_iconst (v := (nI (1))) hx hb dX6_vocable_177 (by decide) ?_
                      refine ln_iadd hx hb dX6_vocable_178 ?_
                      refine an_put (ci := 6) (v := .int (nI (nv + 1))) (ty := .int) (C := RX6) (T := TX6) (N := 23) (ws' := (wM g trace value draft ((nI (0))) ((nI (nv + 1))) (va_cpy draft letter 0 (8 * nv) i2) (upd (long1) (nv) (nI (L))) (upd (feet) (nv) (itsFeet)) (upd (sort) (nv) (itsSort)) order left opn own other pick parts frm size isYear isNext ways nextWays)) hx hb hts iw_X6_vocable_X6 tyX6 tyX6_ok nmX6 hown hK hP (wM_D hd) hS 0 rfl rfl 5 (by decide) (hts _ fl_X6_vocable_124) rfl (by decide +kernel) (rfl) (rfl) (Nat.le_of_ble_eq_true rfl) rfl dX6_vocable_179 (fun H locs hP hS => ?_)
                      refine lv_aload_n hx hb dX6_vocable_182 rfl (lv_at hl 0 rfl) ?_
                      refine an_get (ci := 6) (v := .int (nI (nv + 1))) (C := RX6) (T := TX6) (N := 23) hx hb hts iw_X6_vocable_X6 hown hK hP 0 rfl rfl 5 (by decide) (hts _ fl_X6_vocable_124) rfl dX6_vocable_183 ?_
                      refine lv_iconst (v := (nI (1))) hx hb dX6_vocable_186 (by decide) ?_
                      refine ln_isub hx hb (by omega) dX6_vocable_187 ?_
                      exact wr_iret (va_cpy draft letter 0 (8 * nv) i2, upd (long1) (nv) (nI (L)), upd (feet) (nv) (itsFeet), upd (sort) (nv) (itsSort), (nI (nv + 1)), (nI (0))) hx hb hr hlocks (by rw [show L = i2 by omega]; exact Or.inr (Or.inr (Or.inr ⟨by omega, ⟨by omega, fun k hk => c_76.2 k (by omega)⟩, by omega, rfl, rfl, rfl, rfl, rfl, rfl, rfl⟩))) (fun t ht => show va_P g.1 vwCl (wM g trace value draft ((nI (0))) ((nI (nv + 1))) (va_cpy draft letter 0 (8 * nv) i2) (upd (long1) (nv) (nI (L))) (upd (feet) (nv) (itsFeet)) (upd (sort) (nv) (itsSort)) order left opn own other pick parts frm size isYear isNext ways nextWays) t.heap by rw [ht]; exact hP) hS dX6_vocable_188
                    · have c_103 := (not_congr (cv_le_nn (by omega) (by omega))).mp c_103
                      refine lv_aload_n hx hb dX6_vocable_106 rfl (lv_at hl 0 rfl) ?_
                      refine an_get (ci := 6) (v := .ref (g.2.2 3)) (C := RX6) (T := TX6) (N := 23) hx hb hts iw_X6_vocable_X6 hown hK hP 0 rfl rfl 6 (by decide) (hts _ fl_X6_vocable_16) rfl dX6_vocable_107 ?_
                      refine lv_bipush (v := (nI (8))) hx hb dX6_vocable_110 (by decide) ?_
                      refine lv_aload_n hx hb dX6_vocable_112 rfl (lv_at hl 0 rfl) ?_
                      refine an_get (ci := 6) (v := .int (nI (nv))) (C := RX6) (T := TX6) (N := 23) hx hb hts iw_X6_vocable_X6 hown hK hP 0 rfl rfl 5 (by decide) (hts _ fl_X6_vocable_124) rfl dX6_vocable_113 ?_
                      refine ln_imul hx hb dX6_vocable_116 ?_
                      refine lv_iload hx hb dX6_vocable_117 (lv_at hl 4 rfl) ?_
                      refine ln_iadd hx hb dX6_vocable_119 ?_
                      refine lv_aload_n hx hb dX6_vocable_120 rfl (lv_at hl 0 rfl) ?_
                      refine an_get (ci := 6) (v := .ref (g.2.2 2)) (C := RX6) (T := TX6) (N := 23) hx hb hts iw_X6_vocable_X6 hown hK hP 0 rfl rfl 3 (by decide) (hts _ fl_X6_vocable_13) rfl dX6_vocable_121 ?_
                      refine lv_iload hx hb dX6_vocable_124 (lv_at hl 4 rfl) ?_
                      refine an_iald (f := draft) hx hb hK hP 2 0 rfl rfl (by decide) (by omega) dX6_vocable_126 ?_
                      refine an_iast (f := va_cpy draft letter 0 (8 * nv) i2) (ws' := (wM g trace value draft (nI (L)) (nI (nv)) (upd (va_cpy draft letter 0 (8 * nv) i2) ((8 * nv) + i2) (draft (i2))) long1 feet sort order left opn own other pick parts frm size isYear isNext ways nextWays)) hx hb hK hP (wM_D hd) hS 3 0 rfl rfl (by decide) (by omega) rfl dX6_vocable_127 (fun H locs hP hS => ?_)
                      refine lv_iinc (v := (nI (i2 + 1))) (lv' := [(4, .int (nI (i2 + 1))), (0, .ref (g.2.2 0)), (1, .int (itsFeet)), (2, .int (itsSort)), (3, .int (if wordi draft L i then 1 else 0))]) hx hb dX6_vocable_128 hl (k := 4) rfl (nI_add _ 1) (by decide) rfl (fun ls hl => ?_)
                      refine lv_goto (tgt := 97) hx hb dX6_vocable_131 (by decide) ?_
                      rw [cpy_s] at hP
                      exact ih_97 (i2 + 1) (by omega) (by omega) _ _ hP hS ls (lv_sub hl [1, 2, 3, 4, 0] rfl)
                exact lp_97 (L - (0) + 1) 0 (Nat.zero_le _) (Nat.lt_succ_self _) _ _ hP hS ls (lv_sub hl [1, 2, 3, 4, 0] rfl)
              · have c_88 := (cv_eq_nn (by omega) (by omega)).mp c_88
                refine lv_bipush (v := ((-3 : Int32))) hx hb dX6_vocable_91 (by decide) ?_
                exact wr_iret (letter, long1, feet, sort, nI (nv), nI (L)) hx hb hr hlocks (Or.inr (Or.inr (Or.inl ⟨by omega, ⟨c_76.1, fun k hk => c_76.2 k (by omega)⟩, by omega, rfl, rfl, rfl, rfl, rfl, rfl, rfl⟩))) (fun t ht => show va_P g.1 vwCl (wM g trace value draft (nI (L)) (nI (nv)) letter long1 feet sort order left opn own other pick parts frm size isYear isNext ways nextWays) t.heap by rw [ht]; exact hP) hS dX6_vocable_93
            · have c_76 := if_n c_76
              refine lv_bipush (v := ((-2 : Int32))) hx hb dX6_vocable_79 (by decide) ?_
              exact wr_iret (letter, long1, feet, sort, nI (nv), nI (L)) hx hb hr hlocks (Or.inr (Or.inl ⟨by omega, fun q => c_76 ⟨q.1, fun k hk => q.2 k (by omega)⟩, rfl, rfl, rfl, rfl, rfl, rfl, rfl⟩)) (fun t ht => show va_P g.1 vwCl (wM g trace value draft (nI (L)) (nI (nv)) letter long1 feet sort order left opn own other pick parts frm size isYear isNext ways nextWays) t.heap by rw [ht]; exact hP) hS dX6_vocable_81
          · have c_53 := (not_congr (cv_le_nn (by omega) (by omega))).mp c_53
            refine lv_iload_n hx hb dX6_vocable_56 rfl (lv_at hl 3 rfl) ?_
            refine lv_aload_n hx hb dX6_vocable_57 rfl (lv_at hl 0 rfl) ?_
            refine an_get (ci := 6) (v := .ref (g.2.2 2)) (C := RX6) (T := TX6) (N := 23) hx hb hts iw_X6_vocable_X6 hown hK hP 0 rfl rfl 3 (by decide) (hts _ fl_X6_vocable_13) rfl dX6_vocable_58 ?_
            refine lv_iload hx hb dX6_vocable_61 (lv_at hl 4 rfl) ?_
            refine an_iald (f := draft) hx hb hK hP 2 0 rfl rfl (by decide) (by omega) dX6_vocable_63 ?_
            refine ro_call (va_runS (As := [.int (draft (i))]) (rest := [.int (if wordi draft L i then 1 else 0)]) ⟨hx, hb, hml, hown, hts⟩ (c_X6_isLetter l (draft (i))) (va_cwS 1 hts gX6_vocable_X6_isLetter rfl rfl rfl (by decide +kernel) ⟨Nat.le_of_ble_eq_true rfl, Nat.le_of_ble_eq_true rfl⟩) pre_0 rfl rfl hl.1 rfl (lv_room (Nat.le_of_ble_eq_true rfl)) dX6_vocable_64 ⟨Nat.zero_le _, Nat.zero_le _⟩) ?_
            refine lv_iand hx hb dX6_vocable_67 ?_
            refine ln_toi (y := (if wordi draft L (i + 1) then 1 else 0)) (and_if wordi_s) ?_
            refine lv_istore_n (lv' := [(3, .int (if wordi draft L (i + 1) then 1 else 0)), (0, .ref (g.2.2 0)), (1, .int (itsFeet)), (2, .int (itsSort)), (4, .int (nI (i)))]) hx hb dX6_vocable_68 rfl hl (by decide) rfl (fun ls hl => ?_)
            refine lv_iinc (v := (nI (i + 1))) (lv' := [(4, .int (nI (i + 1))), (3, .int (if wordi draft L (i + 1) then 1 else 0)), (0, .ref (g.2.2 0)), (1, .int (itsFeet)), (2, .int (itsSort))]) hx hb dX6_vocable_69 hl (k := 4) rfl (nI_add _ 1) (by decide) rfl (fun ls hl => ?_)
            refine lv_goto (tgt := 47) hx hb dX6_vocable_72 (by decide) ?_
            exact ih_47 (i + 1) (by omega) (by omega) _ _ hP hS ls (lv_sub hl [2, 3, 4, 1, 0] rfl)
      exact lp_47 (L - (0) + 1) 0 (Nat.zero_le _) (Nat.lt_succ_self _) _ _ hP hS ls (lv_sub hl [2, 3, 4, 1, 0] rfl)
    · have c_26 := if_n c_26
      refine lv_iconst (v := ((-1 : Int32))) hx hb dX6_vocable_29 (by decide) ?_
      exact wr_iret (letter, long1, feet, sort, nI (nv), nI (L)) hx hb hr hlocks (Or.inl ⟨by omega, rfl, rfl, rfl, rfl, rfl, rfl, rfl⟩) (fun t ht => show va_P g.1 vwCl (wM g trace value draft (nI (L)) (nI (nv)) letter long1 feet sort order left opn own other pick parts frm size isYear isNext ways nextWays) t.heap by rw [ht]; exact hP) hS dX6_vocable_30
