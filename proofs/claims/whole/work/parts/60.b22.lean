theorem iw_X6_doubles_X6 : ∀ w ∈ u_ws RX6 TX6 23, w ∈ wsX6_doubles := by decide +kernel
theorem fl_X6_doubles_22 : Cond.fieldLink RX6 22 (TX6 8).1 (TX6 8).2.1 (TX6 8).2.2.1 ∈ wsX6_doubles := by decide +kernel
theorem fl_X6_doubles_25 : Cond.fieldLink RX6 25 (TX6 9).1 (TX6 9).2.1 (TX6 9).2.2.1 ∈ wsX6_doubles := by decide +kernel
theorem fl_X6_doubles_39 : Cond.fieldLink RX6 39 (TX6 13).1 (TX6 13).2.1 (TX6 13).2.2.1 ∈ wsX6_doubles := by decide +kernel
theorem fl_X6_doubles_42 : Cond.fieldLink RX6 42 (TX6 14).1 (TX6 14).2.1 (TX6 14).2.2.1 ∈ wsX6_doubles := by decide +kernel
theorem fl_X6_doubles_45 : Cond.fieldLink RX6 45 (TX6 15).1 (TX6 15).2.1 (TX6 15).2.2.1 ∈ wsX6_doubles := by decide +kernel
theorem fl_X6_doubles_67 : Cond.fieldLink RX6 67 (TX6 0).1 (TX6 0).2.1 (TX6 0).2.2.1 ∈ wsX6_doubles := by decide +kernel
theorem fl_X6_doubles_124 : Cond.fieldLink RX6 124 (TX6 5).1 (TX6 5).2.1 (TX6 5).2.2.1 ∈ wsX6_doubles := by decide +kernel
set_option maxHeartbeats 800000 in
set_option maxRecDepth 100000 in
theorem c_X6_doubles (l : Launch) {g : GW} {trace : Int64} {value : Nat → Int32} {draft : Nat → Int32} {typed : Int32} {nv : Nat} {letter : Nat → Int32} {long1 : Nat → Int32} {feet : Nat → Int32} {sort : Nat → Int32} {order : Nat → Int32} {left : Nat → Int64} {opn : Nat → Int64} {own : Nat → Int32} {other : Nat → Int32} {pick : Nat → Int32} {parts : Int32} {frm : Nat → Int32} {size : Nat → Int32} {isYear : Nat → Int32} {isNext : Nat → Int32} {ways : Nat → Int64} {nextWays : Nat → Int64} {sz : Nat} (ft : Int32) (y : Int32) (zz : Int32) (counting : Int32) (one : Int32) (two : Int32) (hnv : nv ≤ 10) (hle : okV long1 nv 1 8) (hfe : okV feet nv 1 3) (hso : okV sort nv 0 2) (hva : okV value 104 0 1000) (hd : dW 19 g.2.2) : Met l yX6_doubles wsX6_doubles ({ frames := 5, cells := 0, slots := 0, locals := 114 }) (va_Pc ([.ref (g.2.2 0), .int (ft), .int (y), .int (zz), .int (counting), .int (one), .int (two)]) (qW g (wM g trace value draft typed (nI (nv)) letter long1 feet sort order left opn own other pick parts frm size isYear isNext ways nextWays) sz)) (va_Ql (fun (r : Int64) (z : (Nat → Int32) × (Nat → Int32) × (Nat → Int32)) => r = if dok ft y zz counting one two then lN (dwy feet sort order (owf value letter long1 (tn counting) (tn one)) (owf value letter long1 (tn counting) (tn two)) nv (tn ft) 3 (tn y) (tn zz)) else (-1 : Int64)) (fun (z : (Nat → Int32) × (Nat → Int32) × (Nat → Int32)) (t : State) => va_P g.1 vwCl (wM g trace value draft typed (nI (nv)) letter long1 feet sort order left opn (z.1) (z.2.1) (z.2.2) parts frm size isYear isNext ways nextWays) t.heap) (aW 19 g.2.2 sz)) 0 0 (aW 19 g.2.2 sz) := by
  refine Met.ofW (cc := cX6_doubles) (maxL := 16) (ret := (some .long)) (by decide) rfl ?_
  intro p e s m args below meth c s₁ B hml hv
  obtain ⟨rfl, hsz9, hP, hK, hN⟩ := hv
  subst hsz9
  have hx := B.exec
  have hb := B.bytes
  have hr := B.returns
  have hts := atoms_spec (ws := wsX6_doubles) B.pre
  have hown : s.vm.findClass RX6 = some m.cls := findClass_of_methodNamed B.named
  have hlocks := B.notSynchronized
  have hS : va_S (aW 19 g.2.2 s.heap.size) s.heap s.heap [] := va_S.rf
  have hl := lv_entry ([.ref (g.2.2 0), .int (ft), .int (y), .int (zz), .int (counting), .int (one), .int (two)]) (n := 16) (Nat.le_of_ble_eq_true rfl)
  rw [lg_entry_eq]
  generalize (lg_sl ([.ref (g.2.2 0), .int (ft), .int (y), .int (zz), .int (counting), .int (one), .int (two)]) ++ List.replicate (16 - (lg_sl ([.ref (g.2.2 0), .int (ft), .int (y), .int (zz), .int (counting), .int (one), .int (two)])).length) Slot.unset).toArray = ls at hl ⊢
  have hl : lv_has ls 16 [(0, .ref (g.2.2 0)), (1, .int (ft)), (2, .int (y)), (3, .int (zz)), (4, .int (counting)), (5, .int (one)), (6, .int (two))] := hl
  refine lv_aload_n hx hb dX6_doubles_0 rfl (lv_at hl 0 rfl) ?_
  refine lv_iconst (v := (nI (0))) hx hb dX6_doubles_1 (by decide) ?_
  refine an_put (ci := 6) (v := .int (nI (0))) (ty := .int) (C := RX6) (T := TX6) (N := 23) (ws' := (wM g trace value draft typed (nI (nv)) letter long1 feet sort order left opn own other pick parts frm size isYear isNext ways nextWays)) hx hb hts iw_X6_doubles_X6 tyX6 tyX6_ok nmX6 hown hK hP (wM_D hd) hS 0 rfl rfl 0 (by decide) (hts _ fl_X6_doubles_67) rfl (by decide +kernel) (rfl) (rfl) (Nat.le_of_ble_eq_true rfl) rfl dX6_doubles_2 (fun H locs hP hS => ?_)
  refine lv_iload_n hx hb dX6_doubles_5 rfl (lv_at hl 1 rfl) ?_
  refine lv_i2l hx hb dX6_doubles_6 rfl ?_
  refine lv_lconst (v := (lN (1))) hx hb dX6_doubles_7 (by decide) ?_
  refine lv_ldc2 hx hb hown (hts (.constantLong RX6 152 (5)) (by decide +kernel)) dX6_doubles_8 ?_
  refine ln_tol (y := lN 5) (by decide) ?_
  refine ro_call (va_runS (As := [.long ((ft).toInt64), .long (lN (1)), .long (lN (5))]) (rest := []) ⟨hx, hb, hml, hown, hts⟩ (c_X6_in l ((ft)) (1) (5) (by decide) (by decide)) (va_cwS 3 hts gX6_doubles_X6_in rfl rfl rfl (by decide +kernel) ⟨Nat.le_of_ble_eq_true rfl, Nat.le_of_ble_eq_true rfl⟩) pre_0 rfl rfl hl.1 rfl (lv_room (Nat.le_of_ble_eq_true rfl)) dX6_doubles_11 ⟨Nat.zero_le _, Nat.zero_le _⟩) ?_
  refine lv_if_eq (tgt := 64) hx hb dX6_doubles_14 (by decide) (fun c_14 => ?_) (fun c_14 => ?_)
  · have c_14 := if_n c_14
    refine lv_ldc2 hx hb hown (hts (.constantLong RX6 129 (-1)) (by decide +kernel)) dX6_doubles_64 ?_
    exact wr_lret (own, other, pick) hx hb hr hlocks (by rw [if_neg (by omega)]) (fun t ht => show va_P g.1 vwCl (wM g trace value draft typed (nI (nv)) letter long1 feet sort order left opn own other pick parts frm size isYear isNext ways nextWays) t.heap by rw [ht]; exact hP) hS dX6_doubles_67
  · have c_14 := if_p c_14
    refine lv_iload_n hx hb dX6_doubles_17 rfl (lv_at hl 2 rfl) ?_
    refine lv_i2l hx hb dX6_doubles_18 rfl ?_
    refine lv_lconst (v := (lN (0))) hx hb dX6_doubles_19 (by decide) ?_
    refine lv_ldc2 hx hb hown (hts (.constantLong RX6 142 (3000)) (by decide +kernel)) dX6_doubles_20 ?_
    refine ln_tol (y := lN 3000) (by decide) ?_
    refine ro_call (va_runS (As := [.long ((y).toInt64), .long (lN (0)), .long (lN (3000))]) (rest := []) ⟨hx, hb, hml, hown, hts⟩ (c_X6_in l ((y)) (0) (3000) (by decide) (by decide)) (va_cwS 3 hts gX6_doubles_X6_in rfl rfl rfl (by decide +kernel) ⟨Nat.le_of_ble_eq_true rfl, Nat.le_of_ble_eq_true rfl⟩) pre_0 rfl rfl hl.1 rfl (lv_room (Nat.le_of_ble_eq_true rfl)) dX6_doubles_23 ⟨Nat.zero_le _, Nat.zero_le _⟩) ?_
    refine lv_if_eq (tgt := 64) hx hb dX6_doubles_26 (by decide) (fun c_26 => ?_) (fun c_26 => ?_)
    · have c_26 := if_n c_26
      refine lv_ldc2 hx hb hown (hts (.constantLong RX6 129 (-1)) (by decide +kernel)) dX6_doubles_64 ?_
      exact wr_lret (own, other, pick) hx hb hr hlocks (by rw [if_neg (by omega)]) (fun t ht => show va_P g.1 vwCl (wM g trace value draft typed (nI (nv)) letter long1 feet sort order left opn own other pick parts frm size isYear isNext ways nextWays) t.heap by rw [ht]; exact hP) hS dX6_doubles_67
    · have c_26 := if_p c_26
      refine lv_iload_n hx hb dX6_doubles_29 rfl (lv_at hl 3 rfl) ?_
      refine lv_i2l hx hb dX6_doubles_30 rfl ?_
      refine lv_lconst (v := (lN (0))) hx hb dX6_doubles_31 (by decide) ?_
      refine lv_ldc2 hx hb hown (hts (.constantLong RX6 142 (3000)) (by decide +kernel)) dX6_doubles_32 ?_
      refine ln_tol (y := lN 3000) (by decide) ?_
      refine ro_call (va_runS (As := [.long ((zz).toInt64), .long (lN (0)), .long (lN (3000))]) (rest := []) ⟨hx, hb, hml, hown, hts⟩ (c_X6_in l ((zz)) (0) (3000) (by decide) (by decide)) (va_cwS 3 hts gX6_doubles_X6_in rfl rfl rfl (by decide +kernel) ⟨Nat.le_of_ble_eq_true rfl, Nat.le_of_ble_eq_true rfl⟩) pre_0 rfl rfl hl.1 rfl (lv_room (Nat.le_of_ble_eq_true rfl)) dX6_doubles_35 ⟨Nat.zero_le _, Nat.zero_le _⟩) ?_
      refine lv_if_eq (tgt := 64) hx hb dX6_doubles_38 (by decide) (fun c_38 => ?_) (fun c_38 => ?_)
      · have c_38 := if_n c_38
        refine lv_ldc2 hx hb hown (hts (.constantLong RX6 129 (-1)) (by decide +kernel)) dX6_doubles_64 ?_
        exact wr_lret (own, other, pick) hx hb hr hlocks (by rw [if_neg (by omega)]) (fun t ht => show va_P g.1 vwCl (wM g trace value draft typed (nI (nv)) letter long1 feet sort order left opn own other pick parts frm size isYear isNext ways nextWays) t.heap by rw [ht]; exact hP) hS dX6_doubles_67
      · have c_38 := if_p c_38
        refine lv_iload hx hb dX6_doubles_41 (lv_at hl 4 rfl) ?_
        refine lv_iload hx hb dX6_doubles_43 (lv_at hl 5 rfl) ?_
        refine ro_call (va_runS (As := [.int (counting), .int (one)]) (rest := []) ⟨hx, hb, hml, hown, hts⟩ (c_X6_isWay l (counting) (one)) (va_cwS 2 hts gX6_doubles_X6_isWay rfl rfl rfl (by decide +kernel) ⟨Nat.le_of_ble_eq_true rfl, Nat.le_of_ble_eq_true rfl⟩) pre_0 rfl rfl hl.1 rfl (lv_room (Nat.le_of_ble_eq_true rfl)) dX6_doubles_45 ⟨Nat.zero_le _, Nat.zero_le _⟩) ?_
        refine lv_if_eq (tgt := 64) hx hb dX6_doubles_48 (by decide) (fun c_48 => ?_) (fun c_48 => ?_)
        · have c_48 := if_n c_48
          refine lv_ldc2 hx hb hown (hts (.constantLong RX6 129 (-1)) (by decide +kernel)) dX6_doubles_64 ?_
          exact wr_lret (own, other, pick) hx hb hr hlocks (by rw [if_neg (by omega)]) (fun t ht => show va_P g.1 vwCl (wM g trace value draft typed (nI (nv)) letter long1 feet sort order left opn own other pick parts frm size isYear isNext ways nextWays) t.heap by rw [ht]; exact hP) hS dX6_doubles_67
        · have c_48 := if_p c_48
          refine lv_iload hx hb dX6_doubles_51 (lv_at hl 6 rfl) ?_
          refine lv_i2l hx hb dX6_doubles_53 rfl ?_
          refine lv_lconst (v := (lN (0))) hx hb dX6_doubles_54 (by decide) ?_
          refine lv_ldc2 hx hb hown (hts (.constantLong RX6 71 (3)) (by decide +kernel)) dX6_doubles_55 ?_
          refine ln_tol (y := lN 3) (by decide) ?_
          refine ro_call (va_runS (As := [.long ((two).toInt64), .long (lN (0)), .long (lN (3))]) (rest := []) ⟨hx, hb, hml, hown, hts⟩ (c_X6_in l ((two)) (0) (3) (by decide) (by decide)) (va_cwS 3 hts gX6_doubles_X6_in rfl rfl rfl (by decide +kernel) ⟨Nat.le_of_ble_eq_true rfl, Nat.le_of_ble_eq_true rfl⟩) pre_0 rfl rfl hl.1 rfl (lv_room (Nat.le_of_ble_eq_true rfl)) dX6_doubles_58 ⟨Nat.zero_le _, Nat.zero_le _⟩) ?_
          refine lv_if_ne (tgt := 68) hx hb dX6_doubles_61 (by decide) (fun c_61 => ?_) (fun c_61 => ?_)
          · have c_61 := if_p c_61
            have cA : dok ft y zz counting one two := ⟨⟨by omega, by omega⟩, ⟨by omega, by omega⟩, ⟨by omega, by omega⟩, c_48.1, c_48.2, ⟨by omega, by omega⟩⟩
            obtain ⟨h15, h16⟩ := c_48.1
            obtain ⟨h17, h18⟩ := c_48.2
            obtain ⟨f0, hf0, rfl⟩ := iN_of (x := ft) (b := 6) (by omega) (by omega)
            obtain ⟨y0, hy0, rfl⟩ := iN_of (x := y) (b := 3001) (by omega) (by omega)
            obtain ⟨z0, hz0, rfl⟩ := iN_of (x := zz) (b := 3001) (by omega) (by omega)
            obtain ⟨n9, hn9, rfl⟩ := iN_of (b := 3) h15 h16
            obtain ⟨k9, hk9, rfl⟩ := iN_of (b := 4) h17 h18
            obtain ⟨k8, hk8, rfl⟩ := iN_of (x := two) (b := 4) (by omega) (by omega)
            have e0 : tn (nI f0) = f0 := tn_nI (by omega)
            have e1 : tn (nI y0) = y0 := tn_nI (by omega)
            have e2 : tn (nI z0) = z0 := tn_nI (by omega)
            have e3 : tn (nI n9) = n9 := tn_nI (by omega)
            have e4 : tn (nI k9) = k9 := tn_nI (by omega)
            have e5 : tn (nI k8) = k8 := tn_nI (by omega)
            have ef : (nI f0).toInt = (f0 : Int) := nI_toInt (by omega)
            have hf1 : 1 ≤ f0 := by omega
            refine lv_aload_n hx hb dX6_doubles_68 rfl (lv_at hl 0 rfl) ?_
            refine lv_iload hx hb dX6_doubles_69 (lv_at hl 4 rfl) ?_
            refine lv_iload hx hb dX6_doubles_71 (lv_at hl 5 rfl) ?_
            refine lv_aload_n hx hb dX6_doubles_73 rfl (lv_at hl 0 rfl) ?_
            refine an_get (ci := 6) (v := .ref (g.2.2 10)) (C := RX6) (T := TX6) (N := 23) hx hb hts iw_X6_doubles_X6 hown hK hP 0 rfl rfl 13 (by decide) (hts _ fl_X6_doubles_39) rfl dX6_doubles_74 ?_
            refine wr_callv (w := (fun (z : (Nat → Int32)) => (wM g trace value draft typed (nI (nv)) letter long1 feet sort order left opn z other pick parts frm size isYear isNext ways nextWays))) (va_runV (As := [.int (nI (n9)), .int (nI (k9)), .ref (g.2.2 10)]) (rest := []) ⟨hx, hb, hml, hown, hts⟩ (c_X6_owns_own l (g := g) (trace := trace) (value := value) (draft := draft) (typed := typed) (nv := nv) (letter := letter) (long1 := long1) (feet := feet) (sort := sort) (order := order) (left := left) (opn := opn) (own := own) (other := other) (pick := pick) (parts := parts) (frm := frm) (size := size) (isYear := isYear) (isNext := isNext) (ways := ways) (nextWays := nextWays) (sz := _) (n9) (k9) hn9 hk9 hnv hle hd) (cwV 3 hts gX6_doubles_X6_owns rfl rfl rfl (by decide +kernel) ⟨Nat.le_of_ble_eq_true rfl, Nat.le_of_ble_eq_true rfl⟩) (pre_V qW_bl (va_recv hK hP (ci := 6) (q0 := 0) rfl rfl) (fun U hU hW => ⟨by rw [hU], pW_of hP hK hN hU hW⟩)) rfl rfl hl.1 rfl (lv_room (Nat.le_of_ble_eq_true rfl)) dX6_doubles_77 ⟨Nat.zero_le _, Nat.zero_le _⟩) hS (fun own77 H locs hp77 hP hS => ?_)
            have hP : va_P g.1 vwCl (wM g trace value draft typed (nI (nv)) letter long1 feet sort order left opn own77 other pick parts frm size isYear isNext ways nextWays) H := hP
            refine lv_aload_n hx hb dX6_doubles_80 rfl (lv_at hl 0 rfl) ?_
            refine lv_iload hx hb dX6_doubles_81 (lv_at hl 4 rfl) ?_
            refine lv_iload hx hb dX6_doubles_83 (lv_at hl 6 rfl) ?_
            refine lv_aload_n hx hb dX6_doubles_85 rfl (lv_at hl 0 rfl) ?_
            refine an_get (ci := 6) (v := .ref (g.2.2 11)) (C := RX6) (T := TX6) (N := 23) hx hb hts iw_X6_doubles_X6 hown hK hP 0 rfl rfl 14 (by decide) (hts _ fl_X6_doubles_42) rfl dX6_doubles_86 ?_
            refine wr_callv (w := (fun (z : (Nat → Int32)) => (wM g trace value draft typed (nI (nv)) letter long1 feet sort order left opn own77 z pick parts frm size isYear isNext ways nextWays))) (va_runV (As := [.int (nI (n9)), .int (nI (k8)), .ref (g.2.2 11)]) (rest := []) ⟨hx, hb, hml, hown, hts⟩ (c_X6_owns_other l (g := g) (trace := trace) (value := value) (draft := draft) (typed := typed) (nv := nv) (letter := letter) (long1 := long1) (feet := feet) (sort := sort) (order := order) (left := left) (opn := opn) (own := own77) (other := other) (pick := pick) (parts := parts) (frm := frm) (size := size) (isYear := isYear) (isNext := isNext) (ways := ways) (nextWays := nextWays) (sz := _) (n9) (k8) hn9 hk8 hnv hle hd) (cwV 3 hts gX6_doubles_X6_owns rfl rfl rfl (by decide +kernel) ⟨Nat.le_of_ble_eq_true rfl, Nat.le_of_ble_eq_true rfl⟩) (pre_V qW_bl (va_recv hK hP (ci := 6) (q0 := 0) rfl rfl) (fun U hU hW => ⟨by rw [hU], pW_of hP hK hN hU hW⟩)) rfl rfl hl.1 rfl (lv_room (Nat.le_of_ble_eq_true rfl)) dX6_doubles_89 ⟨Nat.zero_le _, Nat.zero_le _⟩) hS (fun other89 H locs hp89 hP hS => ?_)
            have hP : va_P g.1 vwCl (wM g trace value draft typed (nI (nv)) letter long1 feet sort order left opn own77 other89 pick parts frm size isYear isNext ways nextWays) H := hP
            have hq1 : ∀ v, v < nv → own77 v = nI ((owf value letter long1 n9 k9) v) ∧ (owf value letter long1 n9 k9) v ≤ 8000 := fun v hv => ⟨(hp77 v hv).trans (vsm_ok hva hk9 hle hv).1, (vsm_ok (tx := letter) (n := n9) hva hk9 hle hv).2⟩
            have hq2 : ∀ v, v < nv → other89 v = nI ((owf value letter long1 n9 k8) v) ∧ (owf value letter long1 n9 k8) v ≤ 8000 := fun v hv => ⟨(hp89 v hv).trans (vsm_ok hva hk8 hle hv).1, (vsm_ok (tx := letter) (n := n9) hva hk8 hle hv).2⟩
            refine lv_lconst (v := (lN (0))) hx hb dX6_doubles_92 (by decide) ?_
            refine lv_lstore (lv' := [(7, .long (lN (0))), (0, .ref (g.2.2 0)), (1, .int (nI (f0))), (2, .int (nI (y0))), (3, .int (nI (z0))), (4, .int (nI (n9))), (5, .int (nI (k9))), (6, .int (nI (k8)))]) hx hb dX6_doubles_93 hl (by decide) rfl (fun ls hl => ?_)
            refine lv_iconst (v := (nI (1))) hx hb dX6_doubles_95 (by decide) ?_
            refine lv_istore (lv' := [(9, .int (nI (1))), (7, .long (lN (0))), (0, .ref (g.2.2 0)), (1, .int (nI (f0))), (2, .int (nI (y0))), (3, .int (nI (z0))), (4, .int (nI (n9))), (5, .int (nI (k9))), (6, .int (nI (k8)))]) hx hb dX6_doubles_96 hl (by decide) rfl (fun ls hl => ?_)
            refine lv_aload_n hx hb dX6_doubles_98 rfl (lv_at hl 2 rfl) ?_
            refine an_get (ci := 6) (v := .ref (g.2.2 12)) (C := RX6) (T := TX6) (N := 23) hx hb hts iw_X6_doubles_X6 hown hK hP 0 rfl rfl 15 (by decide) (hts _ fl_X6_doubles_45) rfl dX6_doubles_99 ?_
            refine lv_iconst (v := (nI (0))) hx hb dX6_doubles_102 (by decide) ?_
            refine lv_iconst (v := (nI (0))) hx hb dX6_doubles_103 (by decide) ?_
            refine an_iast (f := pick) (ws' := (wM g trace value draft typed (nI (nv)) letter long1 feet sort order left opn own77 other89 (upd (pick) (0) (nI (0))) parts frm size isYear isNext ways nextWays)) hx hb hK hP (wM_D hd) hS 12 0 rfl rfl (by decide) (by omega) rfl dX6_doubles_104 (fun H locs hP hS => ?_)
            refine lv_iconst (v := (nI (0))) hx hb dX6_doubles_105 (by decide) ?_
            refine lv_istore (lv' := [(10, .int (nI (0))), (9, .int (nI (1))), (7, .long (lN (0))), (0, .ref (g.2.2 0)), (1, .int (nI (f0))), (2, .int (nI (y0))), (3, .int (nI (z0))), (4, .int (nI (n9))), (5, .int (nI (k9))), (6, .int (nI (k8)))]) hx hb dX6_doubles_106 hl (by decide) rfl (fun ls hl => ?_)
            refine lv_iconst (v := (nI (0))) hx hb dX6_doubles_108 (by decide) ?_
            refine lv_istore (lv' := [(11, .int (nI (0))), (10, .int (nI (0))), (9, .int (nI (1))), (7, .long (lN (0))), (0, .ref (g.2.2 0)), (1, .int (nI (f0))), (2, .int (nI (y0))), (3, .int (nI (z0))), (4, .int (nI (n9))), (5, .int (nI (k9))), (6, .int (nI (k8)))]) hx hb dX6_doubles_109 hl (by decide) rfl (fun ls hl => ?_)
            refine lv_iconst (v := (nI (0))) hx hb dX6_doubles_111 (by decide) ?_
            refine lv_istore (lv' := [(12, .int (nI (0))), (11, .int (nI (0))), (10, .int (nI (0))), (9, .int (nI (1))), (7, .long (lN (0))), (0, .ref (g.2.2 0)), (1, .int (nI (f0))), (2, .int (nI (y0))), (3, .int (nI (z0))), (4, .int (nI (n9))), (5, .int (nI (k9))), (6, .int (nI (k8)))]) hx hb dX6_doubles_112 hl (by decide) rfl (fun ls hl => ?_)
            have lp_114 : ∀ (n : Nat) (many : Nat) (fa : Nat) (aa : Nat) (ba : Nat) (cn : Nat) (pp : Nat → Nat) (u : Nat → Int32), (many ≤ 5) → (dI feet sort order (owf value letter long1 n9 k9) (owf value letter long1 n9 k8) nv f0 y0 z0 many fa aa ba cn pp) → (∀ l, l < many → u l = nI (pp l)) → mz pp nv many < n → ∀ (H : Heap) (locs : List Loc), va_P g.1 vwCl (wM g trace value draft typed (nI (nv)) letter long1 feet sort order left opn own77 other89 u parts frm size isYear isNext ways nextWays) H → va_S (aW 19 g.2.2 s.heap.size) s.heap H locs → ∀ (ls : Array Slot), lv_has ls 16 [(0, .ref (g.2.2 0)), (1, .int (nI (f0))), (2, .int (nI (y0))), (3, .int (nI (z0))), (4, .int (nI (n9))), (5, .int (nI (k9))), (6, .int (nI (k8))), (7, .long (lN (cn))), (9, .int (nI (many))), (10, .int (nI (fa))), (11, .int (nI (aa))), (12, .int (nI (ba)))] → W p l e (headSpec wsX6_doubles ({ frames := 5, cells := 0, slots := 0, locals := 114 })).room s m (([.ref (g.2.2 0), .int ((nI (f0))), .int ((nI (y0))), .int ((nI (z0))), .int ((nI (n9))), .int ((nI (k9))), .int ((nI (k8)))] : List Value).toArray) below meth c H locs 0 0 (MQ below (va_Ql (fun (r : Int64) (z : (Nat → Int32) × (Nat → Int32) × (Nat → Int32)) => r = if dok (nI (f0)) (nI (y0)) (nI (z0)) (nI (n9)) (nI (k9)) (nI (k8)) then lN (dwy feet sort order (owf value letter long1 (tn (nI (n9))) (tn (nI (k9)))) (owf value letter long1 (tn (nI (n9))) (tn (nI (k8)))) nv (tn (nI (f0))) 3 (tn (nI (y0))) (tn (nI (z0)))) else (-1 : Int64)) (fun (z : (Nat → Int32) × (Nat → Int32) × (Nat → Int32)) (t : State) => va_P g.1 vwCl (wM g trace value draft typed (nI (nv)) letter long1 feet sort order left opn (z.1) (z.2.1) (z.2.2) parts frm size isYear isNext ways nextWays) t.heap) (aW 19 g.2.2 s.heap.size)) (([.ref (g.2.2 0), .int ((nI (f0))), .int ((nI (y0))), .int ((nI (z0))), .int ((nI (n9))), .int ((nI (k9))), .int ((nI (k8)))] : List Value).toArray) s 0 0 (aW 19 g.2.2 s.heap.size)) (F0 m 114 ls []) := by
              intro n
              induction n with
              | zero => intro many fa aa ba cn pp u hm6 hD hu hm; exact absurd hm (Nat.not_lt_zero _)
              | succ n ih_114 =>
                intro many fa aa ba cn pp u hm6 hD hu hm_114 H locs hP hS ls hl
                refine lv_iload hx hb dX6_doubles_114 (lv_at hl 8 rfl) ?_
                refine lv_if_le (tgt := 424) hx hb dX6_doubles_116 (by decide) (fun c_116 => ?_) (fun c_116 => ?_)
                · have c_116 := (cz_le_n (by omega)).mp c_116
                  refine lv_lload hx hb dX6_doubles_424 (lv_at hl 7 rfl) ?_
                  exact wr_lret (own77, other89, u) hx hb hr hlocks (by rw [if_pos cA, e0, e1, e2, e3, e4, e5, ← dI_x hD c_116]) (fun t ht => show va_P g.1 vwCl (wM g trace value draft typed (nI (nv)) letter long1 feet sort order left opn own77 other89 u parts frm size isYear isNext ways nextWays) t.heap by rw [ht]; exact hP) hS dX6_doubles_426
                · have c_116 := (not_congr (cz_le_n (by omega))).mp c_116
                  have hm1 : 1 ≤ many := by omega
                  obtain ⟨hm5, hpn, hfa, haa, hba, hsF, hsS⟩ := dI_b hD hm1 hfe hso hf1
                  refine lv_aload_n hx hb dX6_doubles_119 rfl (lv_at hl 0 rfl) ?_
                  refine an_get (ci := 6) (v := .ref (g.2.2 12)) (C := RX6) (T := TX6) (N := 23) hx hb hts iw_X6_doubles_X6 hown hK hP 0 rfl rfl 15 (by decide) (hts _ fl_X6_doubles_45) rfl dX6_doubles_120 ?_
                  refine lv_iload hx hb dX6_doubles_123 (lv_at hl 8 rfl) ?_
                  refine lv_iconst (v := (nI (1))) hx hb dX6_doubles_125 (by decide) ?_
                  refine ln_isub hx hb (by omega) dX6_doubles_126 ?_
                  refine an_iald (f := u) hx hb hK hP 12 0 rfl rfl (by decide) (by omega) dX6_doubles_127 ?_
                  refine ln_toi (y := (nI (pp (many - 1)))) (hu (many - 1) (by omega)) ?_
                  refine lv_istore (lv' := [(13, .int (nI (pp (many - 1)))), (0, .ref (g.2.2 0)), (1, .int (nI (f0))), (2, .int (nI (y0))), (3, .int (nI (z0))), (4, .int (nI (n9))), (5, .int (nI (k9))), (6, .int (nI (k8))), (7, .long (lN (cn))), (9, .int (nI (many))), (10, .int (nI (fa))), (11, .int (nI (aa))), (12, .int (nI (ba)))]) hx hb dX6_doubles_128 hl (by decide) rfl (fun ls hl => ?_)
                  refine lv_iload hx hb dX6_doubles_130 (lv_at hl 0 rfl) ?_
                  refine lv_aload_n hx hb dX6_doubles_132 rfl (lv_at hl 1 rfl) ?_
                  refine an_get (ci := 6) (v := .int (nI (nv))) (C := RX6) (T := TX6) (N := 23) hx hb hts iw_X6_doubles_X6 hown hK hP 0 rfl rfl 5 (by decide) (hts _ fl_X6_doubles_124) rfl dX6_doubles_133 ?_
                  refine lv_icmp_ne (tgt := 210) hx hb dX6_doubles_136 (by decide) (fun c_136 => ?_) (fun c_136 => ?_)
                  · have c_136 := (not_congr (cv_eq_nn (by omega) (by omega))).mp c_136
                    have hvn : pp (many - 1) < nv := by omega
                    have hf9 := hfe _ hvn
                    have g1 := hq1 _ hvn
                    have g2 := hq2 _ hvn
                    refine lv_iload hx hb dX6_doubles_210 (lv_at hl 9 rfl) ?_
                    refine lv_iconst (v := (nI (1))) hx hb dX6_doubles_212 (by decide) ?_
                    refine lv_icmp_ne (tgt := 220) hx hb dX6_doubles_213 (by decide) (fun c_213 => ?_) (fun c_213 => ?_)
                    · have c_213 := (not_congr (cv_eq_nn (by omega) (by omega))).mp c_213
                      have hp2 := dI_2 hD (by omega)
                      refine lv_aload_n hx hb dX6_doubles_220 rfl (lv_at hl 1 rfl) ?_
                      refine an_get (ci := 6) (v := .ref (g.2.2 6)) (C := RX6) (T := TX6) (N := 23) hx hb hts iw_X6_doubles_X6 hown hK hP 0 rfl rfl 9 (by decide) (hts _ fl_X6_doubles_25) rfl dX6_doubles_221 ?_
                      refine lv_aload_n hx hb dX6_doubles_224 rfl (lv_at hl 1 rfl) ?_
                      refine an_get (ci := 6) (v := .ref (g.2.2 12)) (C := RX6) (T := TX6) (N := 23) hx hb hts iw_X6_doubles_X6 hown hK hP 0 rfl rfl 15 (by decide) (hts _ fl_X6_doubles_45) rfl dX6_doubles_225 ?_
                      refine lv_iload hx hb dX6_doubles_228 (lv_at hl 9 rfl) ?_
                      refine lv_iconst (v := (nI (2))) hx hb dX6_doubles_230 (by decide) ?_
                      refine ln_isub hx hb (by omega) dX6_doubles_231 ?_
                      refine an_iald (f := u) hx hb hK hP 12 0 rfl rfl (by decide) (by omega) dX6_doubles_232 ?_
                      refine ln_toi (y := (nI (pp (many - 2)))) (hu (many - 2) (by omega)) ?_
                      refine an_iald (f := sort) hx hb hK hP 6 0 rfl rfl (by decide) (by omega) dX6_doubles_233 ?_
                      refine ln_toi (y := (nI (sS sort pp (many - 1)))) (by rw [show many - 1 = (many - 2) + 1 by omega]; exact (hso _ hp2).1) ?_
                      refine lv_istore (lv' := [(14, .int (nI (sS sort pp (many - 1)))), (13, .int (nI (pp (many - 1)))), (0, .ref (g.2.2 0)), (1, .int (nI (f0))), (2, .int (nI (y0))), (3, .int (nI (z0))), (4, .int (nI (n9))), (5, .int (nI (k9))), (6, .int (nI (k8))), (7, .long (lN (cn))), (9, .int (nI (many))), (10, .int (nI (fa))), (11, .int (nI (aa))), (12, .int (nI (ba)))]) hx hb dX6_doubles_234 hl (by decide) rfl (fun ls hl => ?_)
                      refine lv_aload_n hx hb dX6_doubles_236 rfl (lv_at hl 2 rfl) ?_
                      refine lv_iload hx hb dX6_doubles_237 (lv_at hl 0 rfl) ?_
                      refine lv_iload hx hb dX6_doubles_239 (lv_at hl 1 rfl) ?_
                      refine ro_call (va_runV (As := [.int (nI (sS sort pp (many - 1))), .int (nI (pp (many - 1)))]) (rest := []) ⟨hx, hb, hml, hown, hts⟩ (c_X6_isAfter l (g := g) (trace := trace) (value := value) (draft := draft) (typed := typed) (vocables := nI (nv)) (letter := letter) (long1 := long1) (feet := feet) (sort := sort) (order := order) (left := left) (opn := opn) (own := own77) (other := other89) (pick := u) (parts := parts) (frm := frm) (size := size) (isYear := isYear) (isNext := isNext) (ways := ways) (nextWays := nextWays) (sS sort pp (many - 1)) (pp (many - 1)) (by omega) (by omega)) (cwV 2 hts gX6_doubles_X6_isAfter rfl rfl rfl (by decide +kernel) ⟨Nat.le_of_ble_eq_true rfl, Nat.le_of_ble_eq_true rfl⟩) (pre_V pW_bl (va_recv hK hP (ci := 6) (q0 := 0) rfl rfl) (fun U hU hW => pW_of hP hK hN hU hW)) rfl rfl hl.1 rfl (lv_room (Nat.le_of_ble_eq_true rfl)) dX6_doubles_241 ⟨Nat.zero_le _, Nat.zero_le _⟩) ?_
                      refine lv_if_eq (tgt := 293) hx hb dX6_doubles_244 (by decide) (fun c_244 => ?_) (fun c_244 => ?_)
                      · have c_244 := if_n c_244
                        refine lv_iconst (v := (nI (0))) hx hb dX6_doubles_293 (by decide) ?_
                        refine lv_istore (lv' := [(15, .int (nI (0))), (14, .int (nI (sS sort pp (many - 1)))), (13, .int (nI (pp (many - 1)))), (0, .ref (g.2.2 0)), (1, .int (nI (f0))), (2, .int (nI (y0))), (3, .int (nI (z0))), (4, .int (nI (n9))), (5, .int (nI (k9))), (6, .int (nI (k8))), (7, .long (lN (cn))), (9, .int (nI (many))), (10, .int (nI (fa))), (11, .int (nI (aa))), (12, .int (nI (ba)))]) hx hb dX6_doubles_294 hl (by decide) rfl (fun ls hl => ?_)
                        refine lv_iload hx hb dX6_doubles_296 (lv_at hl 0 rfl) ?_
                        refine lv_if_eq (tgt := 365) hx hb dX6_doubles_298 (by decide) (fun c_298 => ?_) (fun c_298 => ?_)
                        · have c_298 := (cz_eq_n (by omega)).mp c_298
                          refine lv_lload hx hb dX6_doubles_365 (lv_at hl 10 rfl) ?_
                          refine lv_iload hx hb dX6_doubles_367 (lv_at hl 0 rfl) ?_
                          refine lv_if_eq (tgt := 404) hx hb dX6_doubles_369 (by decide) (fun c_369 => ?_) (fun c_369 => ?_)
                          · have c_369 := (cz_eq_n (by omega)).mp c_369
                            refine lv_lconst (v := (lN (0))) hx hb dX6_doubles_404 (by decide) ?_
                            refine ln_ladd hx hb dX6_doubles_405 ?_
                            refine lv_lstore (lv' := [(7, .long (lN (cn + 0))), (15, .int (nI (0))), (14, .int (nI (sS sort pp (many - 1)))), (13, .int (nI (pp (many - 1)))), (0, .ref (g.2.2 0)), (1, .int (nI (f0))), (2, .int (nI (y0))), (3, .int (nI (z0))), (4, .int (nI (n9))), (5, .int (nI (k9))), (6, .int (nI (k8))), (9, .int (nI (many))), (10, .int (nI (fa))), (11, .int (nI (aa))), (12, .int (nI (ba)))]) hx hb dX6_doubles_406 hl (by decide) rfl (fun ls hl => ?_)
                            refine lv_aload_n hx hb dX6_doubles_408 rfl (lv_at hl 4 rfl) ?_
                            refine an_get (ci := 6) (v := .ref (g.2.2 12)) (C := RX6) (T := TX6) (N := 23) hx hb hts iw_X6_doubles_X6 hown hK hP 0 rfl rfl 15 (by decide) (hts _ fl_X6_doubles_45) rfl dX6_doubles_409 ?_
                            refine lv_iload hx hb dX6_doubles_412 (lv_at hl 11 rfl) ?_
                            refine lv_iconst (v := (nI (1))) hx hb dX6_doubles_414 (by decide) ?_
                            refine ln_isub hx hb (by omega) dX6_doubles_415 ?_
                            refine lv_dup2_11 hx hb dX6_doubles_416 rfl rfl ?_
                            refine an_iald (f := u) hx hb hK hP 12 0 rfl rfl (by decide) (by omega) dX6_doubles_417 ?_
                            refine ln_toi (y := (nI (pp (many - 1)))) (hu (many - 1) (by omega)) ?_
                            refine lv_iconst (v := (nI (1))) hx hb dX6_doubles_418 (by decide) ?_
                            refine ln_iadd hx hb dX6_doubles_419 ?_
                            refine an_iast (f := u) (ws' := (wM g trace value draft typed (nI (nv)) letter long1 feet sort order left opn own77 other89 (upd (u) (many - 1) (nI ((pp (many - 1)) + 1))) parts frm size isYear isNext ways nextWays)) hx hb hK hP (wM_D hd) hS 12 0 rfl rfl (by decide) (by omega) rfl dX6_doubles_420 (fun H locs hP hS => ?_)
                            refine lv_goto (tgt := 114) hx hb dX6_doubles_421 (by decide) ?_
                            have hmz := mz_l (p := pp) (nv := nv) hm1 hvn
                            exact ih_114 many fa aa ba (cn + 0) (pu pp (many - 1) (pp (many - 1) + 1)) (upd u (many - 1) (nI (pp (many - 1) + 1))) (hm6) (dI_l hD hm1 hvn (dT_n c_244)) (hu_l hu) (by omega) _ _ hP hS ls (lv_sub hl [4, 5, 6, 7, 8, 9, 10, 0, 11, 12, 13, 14] rfl)
                          · have c_369 := (not_congr (cz_eq_n (by omega))).mp c_369
                            exact absurd c_369 (by decide)
                        · have c_298 := (not_congr (cz_eq_n (by omega))).mp c_298
                          exact absurd c_298 (by decide)
                      · have c_244 := if_p c_244
                        refine lv_iload hx hb dX6_doubles_247 (lv_at hl 11 rfl) ?_
                        refine lv_aload_n hx hb dX6_doubles_249 rfl (lv_at hl 2 rfl) ?_
                        refine an_get (ci := 6) (v := .ref (g.2.2 5)) (C := RX6) (T := TX6) (N := 23) hx hb hts iw_X6_doubles_X6 hown hK hP 0 rfl rfl 8 (by decide) (hts _ fl_X6_doubles_22) rfl dX6_doubles_250 ?_
                        refine lv_iload hx hb dX6_doubles_253 (lv_at hl 1 rfl) ?_
                        refine an_iald (f := feet) hx hb hK hP 5 0 rfl rfl (by decide) (by omega) dX6_doubles_255 ?_
                        refine ln_toi (y := (nI (tn (feet (pp (many - 1)))))) (hf9.1) ?_
                        refine ln_iadd hx hb dX6_doubles_256 ?_
                        refine lv_iload_n hx hb dX6_doubles_257 rfl (lv_at hl 3 rfl) ?_
                        refine lv_icmp_gt (tgt := 293) hx hb dX6_doubles_258 (by decide) (fun c_258 => ?_) (fun c_258 => ?_)
                        · have c_258 := (cv_lt_nn (by omega) (by omega)).mp c_258
                          refine lv_iconst (v := (nI (0))) hx hb dX6_doubles_293 (by decide) ?_
                          refine lv_istore (lv' := [(15, .int (nI (0))), (14, .int (nI (sS sort pp (many - 1)))), (13, .int (nI (pp (many - 1)))), (0, .ref (g.2.2 0)), (1, .int (nI (f0))), (2, .int (nI (y0))), (3, .int (nI (z0))), (4, .int (nI (n9))), (5, .int (nI (k9))), (6, .int (nI (k8))), (7, .long (lN (cn))), (9, .int (nI (many))), (10, .int (nI (fa))), (11, .int (nI (aa))), (12, .int (nI (ba)))]) hx hb dX6_doubles_294 hl (by decide) rfl (fun ls hl => ?_)
                          refine lv_iload hx hb dX6_doubles_296 (lv_at hl 0 rfl) ?_
                          refine lv_if_eq (tgt := 365) hx hb dX6_doubles_298 (by decide) (fun c_298 => ?_) (fun c_298 => ?_)
                          · have c_298 := (cz_eq_n (by omega)).mp c_298
                            refine lv_lload hx hb dX6_doubles_365 (lv_at hl 10 rfl) ?_
                            refine lv_iload hx hb dX6_doubles_367 (lv_at hl 0 rfl) ?_
                            refine lv_if_eq (tgt := 404) hx hb dX6_doubles_369 (by decide) (fun c_369 => ?_) (fun c_369 => ?_)
                            · have c_369 := (cz_eq_n (by omega)).mp c_369
                              refine lv_lconst (v := (lN (0))) hx hb dX6_doubles_404 (by decide) ?_
                              refine ln_ladd hx hb dX6_doubles_405 ?_
                              refine lv_lstore (lv' := [(7, .long (lN (cn + 0))), (15, .int (nI (0))), (14, .int (nI (sS sort pp (many - 1)))), (13, .int (nI (pp (many - 1)))), (0, .ref (g.2.2 0)), (1, .int (nI (f0))), (2, .int (nI (y0))), (3, .int (nI (z0))), (4, .int (nI (n9))), (5, .int (nI (k9))), (6, .int (nI (k8))), (9, .int (nI (many))), (10, .int (nI (fa))), (11, .int (nI (aa))), (12, .int (nI (ba)))]) hx hb dX6_doubles_406 hl (by decide) rfl (fun ls hl => ?_)
                              refine lv_aload_n hx hb dX6_doubles_408 rfl (lv_at hl 4 rfl) ?_
                              refine an_get (ci := 6) (v := .ref (g.2.2 12)) (C := RX6) (T := TX6) (N := 23) hx hb hts iw_X6_doubles_X6 hown hK hP 0 rfl rfl 15 (by decide) (hts _ fl_X6_doubles_45) rfl dX6_doubles_409 ?_
                              refine lv_iload hx hb dX6_doubles_412 (lv_at hl 11 rfl) ?_
                              refine lv_iconst (v := (nI (1))) hx hb dX6_doubles_414 (by decide) ?_
                              refine ln_isub hx hb (by omega) dX6_doubles_415 ?_
                              refine lv_dup2_11 hx hb dX6_doubles_416 rfl rfl ?_
                              refine an_iald (f := u) hx hb hK hP 12 0 rfl rfl (by decide) (by omega) dX6_doubles_417 ?_
                              refine ln_toi (y := (nI (pp (many - 1)))) (hu (many - 1) (by omega)) ?_
                              refine lv_iconst (v := (nI (1))) hx hb dX6_doubles_418 (by decide) ?_
                              refine ln_iadd hx hb dX6_doubles_419 ?_
                              refine an_iast (f := u) (ws' := (wM g trace value draft typed (nI (nv)) letter long1 feet sort order left opn own77 other89 (upd (u) (many - 1) (nI ((pp (many - 1)) + 1))) parts frm size isYear isNext ways nextWays)) hx hb hK hP (wM_D hd) hS 12 0 rfl rfl (by decide) (by omega) rfl dX6_doubles_420 (fun H locs hP hS => ?_)
                              refine lv_goto (tgt := 114) hx hb dX6_doubles_421 (by decide) ?_
                              have hmz := mz_l (p := pp) (nv := nv) hm1 hvn
                              exact ih_114 many fa aa ba (cn + 0) (pu pp (many - 1) (pp (many - 1) + 1)) (upd u (many - 1) (nI (pp (many - 1) + 1))) (hm6) (dI_l hD hm1 hvn (dT_m (by omega))) (hu_l hu) (by omega) _ _ hP hS ls (lv_sub hl [4, 5, 6, 7, 8, 9, 10, 0, 11, 12, 13, 14] rfl)
                            · have c_369 := (not_congr (cz_eq_n (by omega))).mp c_369
                              exact absurd c_369 (by decide)
                          · have c_298 := (not_congr (cz_eq_n (by omega))).mp c_298
                            exact absurd c_298 (by decide)
                        · have c_258 := (not_congr (cv_lt_nn (by omega) (by omega))).mp c_258
                          refine lv_iload hx hb dX6_doubles_261 (lv_at hl 12 rfl) ?_
                          refine lv_aload_n hx hb dX6_doubles_263 rfl (lv_at hl 2 rfl) ?_
                          refine an_get (ci := 6) (v := .ref (g.2.2 10)) (C := RX6) (T := TX6) (N := 23) hx hb hts iw_X6_doubles_X6 hown hK hP 0 rfl rfl 13 (by decide) (hts _ fl_X6_doubles_39) rfl dX6_doubles_264 ?_
                          refine lv_iload hx hb dX6_doubles_267 (lv_at hl 1 rfl) ?_
                          refine an_iald (f := own77) hx hb hK hP 10 0 rfl rfl (by decide) (by omega) dX6_doubles_269 ?_
                          refine ln_toi (y := (nI ((owf value letter long1 n9 k9) (pp (many - 1))))) (g1.1) ?_
                          refine ln_iadd hx hb dX6_doubles_270 ?_
                          refine lv_iload_n hx hb dX6_doubles_271 rfl (lv_at hl 4 rfl) ?_
                          refine lv_icmp_gt (tgt := 293) hx hb dX6_doubles_272 (by decide) (fun c_272 => ?_) (fun c_272 => ?_)
                          · have c_272 := (cv_lt_nn (by omega) (by omega)).mp c_272
                            refine lv_iconst (v := (nI (0))) hx hb dX6_doubles_293 (by decide) ?_
                            refine lv_istore (lv' := [(15, .int (nI (0))), (14, .int (nI (sS sort pp (many - 1)))), (13, .int (nI (pp (many - 1)))), (0, .ref (g.2.2 0)), (1, .int (nI (f0))), (2, .int (nI (y0))), (3, .int (nI (z0))), (4, .int (nI (n9))), (5, .int (nI (k9))), (6, .int (nI (k8))), (7, .long (lN (cn))), (9, .int (nI (many))), (10, .int (nI (fa))), (11, .int (nI (aa))), (12, .int (nI (ba)))]) hx hb dX6_doubles_294 hl (by decide) rfl (fun ls hl => ?_)
                            refine lv_iload hx hb dX6_doubles_296 (lv_at hl 0 rfl) ?_
                            refine lv_if_eq (tgt := 365) hx hb dX6_doubles_298 (by decide) (fun c_298 => ?_) (fun c_298 => ?_)
                            · have c_298 := (cz_eq_n (by omega)).mp c_298
                              refine lv_lload hx hb dX6_doubles_365 (lv_at hl 10 rfl) ?_
                              refine lv_iload hx hb dX6_doubles_367 (lv_at hl 0 rfl) ?_
                              refine lv_if_eq (tgt := 404) hx hb dX6_doubles_369 (by decide) (fun c_369 => ?_) (fun c_369 => ?_)
                              · have c_369 := (cz_eq_n (by omega)).mp c_369
                                refine lv_lconst (v := (lN (0))) hx hb dX6_doubles_404 (by decide) ?_
                                refine ln_ladd hx hb dX6_doubles_405 ?_
                                refine lv_lstore (lv' := [(7, .long (lN (cn + 0))), (15, .int (nI (0))), (14, .int (nI (sS sort pp (many - 1)))), (13, .int (nI (pp (many - 1)))), (0, .ref (g.2.2 0)), (1, .int (nI (f0))), (2, .int (nI (y0))), (3, .int (nI (z0))), (4, .int (nI (n9))), (5, .int (nI (k9))), (6, .int (nI (k8))), (9, .int (nI (many))), (10, .int (nI (fa))), (11, .int (nI (aa))), (12, .int (nI (ba)))]) hx hb dX6_doubles_406 hl (by decide) rfl (fun ls hl => ?_)
                                refine lv_aload_n hx hb dX6_doubles_408 rfl (lv_at hl 4 rfl) ?_
                                refine an_get (ci := 6) (v := .ref (g.2.2 12)) (C := RX6) (T := TX6) (N := 23) hx hb hts iw_X6_doubles_X6 hown hK hP 0 rfl rfl 15 (by decide) (hts _ fl_X6_doubles_45) rfl dX6_doubles_409 ?_
                                refine lv_iload hx hb dX6_doubles_412 (lv_at hl 11 rfl) ?_
                                refine lv_iconst (v := (nI (1))) hx hb dX6_doubles_414 (by decide) ?_
                                refine ln_isub hx hb (by omega) dX6_doubles_415 ?_
                                refine lv_dup2_11 hx hb dX6_doubles_416 rfl rfl ?_
                                refine an_iald (f := u) hx hb hK hP 12 0 rfl rfl (by decide) (by omega) dX6_doubles_417 ?_
                                refine ln_toi (y := (nI (pp (many - 1)))) (hu (many - 1) (by omega)) ?_
                                refine lv_iconst (v := (nI (1))) hx hb dX6_doubles_418 (by decide) ?_
                                refine ln_iadd hx hb dX6_doubles_419 ?_
                                refine an_iast (f := u) (ws' := (wM g trace value draft typed (nI (nv)) letter long1 feet sort order left opn own77 other89 (upd (u) (many - 1) (nI ((pp (many - 1)) + 1))) parts frm size isYear isNext ways nextWays)) hx hb hK hP (wM_D hd) hS 12 0 rfl rfl (by decide) (by omega) rfl dX6_doubles_420 (fun H locs hP hS => ?_)
                                refine lv_goto (tgt := 114) hx hb dX6_doubles_421 (by decide) ?_
                                have hmz := mz_l (p := pp) (nv := nv) hm1 hvn
                                exact ih_114 many fa aa ba (cn + 0) (pu pp (many - 1) (pp (many - 1) + 1)) (upd u (many - 1) (nI (pp (many - 1) + 1))) (hm6) (dI_l hD hm1 hvn (dT_m (by omega))) (hu_l hu) (by omega) _ _ hP hS ls (lv_sub hl [4, 5, 6, 7, 8, 9, 10, 0, 11, 12, 13, 14] rfl)
                              · have c_369 := (not_congr (cz_eq_n (by omega))).mp c_369
                                exact absurd c_369 (by decide)
                            · have c_298 := (not_congr (cz_eq_n (by omega))).mp c_298
                              exact absurd c_298 (by decide)
                          · have c_272 := (not_congr (cv_lt_nn (by omega) (by omega))).mp c_272
                            refine lv_iload hx hb dX6_doubles_275 (lv_at hl 13 rfl) ?_
                            refine lv_aload_n hx hb dX6_doubles_277 rfl (lv_at hl 2 rfl) ?_
                            refine an_get (ci := 6) (v := .ref (g.2.2 11)) (C := RX6) (T := TX6) (N := 23) hx hb hts iw_X6_doubles_X6 hown hK hP 0 rfl rfl 14 (by decide) (hts _ fl_X6_doubles_42) rfl dX6_doubles_278 ?_
                            refine lv_iload hx hb dX6_doubles_281 (lv_at hl 1 rfl) ?_
                            refine an_iald (f := other89) hx hb hK hP 11 0 rfl rfl (by decide) (by omega) dX6_doubles_283 ?_
                            refine ln_toi (y := (nI ((owf value letter long1 n9 k8) (pp (many - 1))))) (g2.1) ?_
                            refine ln_iadd hx hb dX6_doubles_284 ?_
                            refine lv_iload_n hx hb dX6_doubles_285 rfl (lv_at hl 5 rfl) ?_
                            refine lv_icmp_gt (tgt := 293) hx hb dX6_doubles_286 (by decide) (fun c_286 => ?_) (fun c_286 => ?_)
                            · have c_286 := (cv_lt_nn (by omega) (by omega)).mp c_286
                              refine lv_iconst (v := (nI (0))) hx hb dX6_doubles_293 (by decide) ?_
                              refine lv_istore (lv' := [(15, .int (nI (0))), (14, .int (nI (sS sort pp (many - 1)))), (13, .int (nI (pp (many - 1)))), (0, .ref (g.2.2 0)), (1, .int (nI (f0))), (2, .int (nI (y0))), (3, .int (nI (z0))), (4, .int (nI (n9))), (5, .int (nI (k9))), (6, .int (nI (k8))), (7, .long (lN (cn))), (9, .int (nI (many))), (10, .int (nI (fa))), (11, .int (nI (aa))), (12, .int (nI (ba)))]) hx hb dX6_doubles_294 hl (by decide) rfl (fun ls hl => ?_)
                              refine lv_iload hx hb dX6_doubles_296 (lv_at hl 0 rfl) ?_
                              refine lv_if_eq (tgt := 365) hx hb dX6_doubles_298 (by decide) (fun c_298 => ?_) (fun c_298 => ?_)
                              · have c_298 := (cz_eq_n (by omega)).mp c_298
                                refine lv_lload hx hb dX6_doubles_365 (lv_at hl 10 rfl) ?_
                                refine lv_iload hx hb dX6_doubles_367 (lv_at hl 0 rfl) ?_
                                refine lv_if_eq (tgt := 404) hx hb dX6_doubles_369 (by decide) (fun c_369 => ?_) (fun c_369 => ?_)
                                · have c_369 := (cz_eq_n (by omega)).mp c_369
                                  refine lv_lconst (v := (lN (0))) hx hb dX6_doubles_404 (by decide) ?_
                                  refine ln_ladd hx hb dX6_doubles_405 ?_
                                  refine lv_lstore (lv' := [(7, .long (lN (cn + 0))), (15, .int (nI (0))), (14, .int (nI (sS sort pp (many - 1)))), (13, .int (nI (pp (many - 1)))), (0, .ref (g.2.2 0)), (1, .int (nI (f0))), (2, .int (nI (y0))), (3, .int (nI (z0))), (4, .int (nI (n9))), (5, .int (nI (k9))), (6, .int (nI (k8))), (9, .int (nI (many))), (10, .int (nI (fa))), (11, .int (nI (aa))), (12, .int (nI (ba)))]) hx hb dX6_doubles_406 hl (by decide) rfl (fun ls hl => ?_)
                                  refine lv_aload_n hx hb dX6_doubles_408 rfl (lv_at hl 4 rfl) ?_
                                  refine an_get (ci := 6) (v := .ref (g.2.2 12)) (C := RX6) (T := TX6) (N := 23) hx hb hts iw_X6_doubles_X6 hown hK hP 0 rfl rfl 15 (by decide) (hts _ fl_X6_doubles_45) rfl dX6_doubles_409 ?_
                                  refine lv_iload hx hb dX6_doubles_412 (lv_at hl 11 rfl) ?_
                                  refine lv_iconst (v := (nI (1))) hx hb dX6_doubles_414 (by decide) ?_
                                  refine ln_isub hx hb (by omega) dX6_doubles_415 ?_
                                  refine lv_dup2_11 hx hb dX6_doubles_416 rfl rfl ?_
                                  refine an_iald (f := u) hx hb hK hP 12 0 rfl rfl (by decide) (by omega) dX6_doubles_417 ?_
                                  refine ln_toi (y := (nI (pp (many - 1)))) (hu (many - 1) (by omega)) ?_
                                  refine lv_iconst (v := (nI (1))) hx hb dX6_doubles_418 (by decide) ?_
                                  refine ln_iadd hx hb dX6_doubles_419 ?_
                                  refine an_iast (f := u) (ws' := (wM g trace value draft typed (nI (nv)) letter long1 feet sort order left opn own77 other89 (upd (u) (many - 1) (nI ((pp (many - 1)) + 1))) parts frm size isYear isNext ways nextWays)) hx hb hK hP (wM_D hd) hS 12 0 rfl rfl (by decide) (by omega) rfl dX6_doubles_420 (fun H locs hP hS => ?_)
                                  refine lv_goto (tgt := 114) hx hb dX6_doubles_421 (by decide) ?_
                                  have hmz := mz_l (p := pp) (nv := nv) hm1 hvn
                                  exact ih_114 many fa aa ba (cn + 0) (pu pp (many - 1) (pp (many - 1) + 1)) (upd u (many - 1) (nI (pp (many - 1) + 1))) (hm6) (dI_l hD hm1 hvn (dT_m (by omega))) (hu_l hu) (by omega) _ _ hP hS ls (lv_sub hl [4, 5, 6, 7, 8, 9, 10, 0, 11, 12, 13, 14] rfl)
                                · have c_369 := (not_congr (cz_eq_n (by omega))).mp c_369
                                  exact absurd c_369 (by decide)
                              · have c_298 := (not_congr (cz_eq_n (by omega))).mp c_298
                                exact absurd c_298 (by decide)
                            · have c_286 := (not_congr (cv_lt_nn (by omega) (by omega))).mp c_286
                              refine lv_iconst (v := (nI (1))) hx hb dX6_doubles_289 (by decide) ?_
                              refine lv_goto (tgt := 294) hx hb dX6_doubles_290 (by decide) ?_
                              refine lv_istore (lv' := [(15, .int (nI (1))), (14, .int (nI (sS sort pp (many - 1)))), (13, .int (nI (pp (many - 1)))), (0, .ref (g.2.2 0)), (1, .int (nI (f0))), (2, .int (nI (y0))), (3, .int (nI (z0))), (4, .int (nI (n9))), (5, .int (nI (k9))), (6, .int (nI (k8))), (7, .long (lN (cn))), (9, .int (nI (many))), (10, .int (nI (fa))), (11, .int (nI (aa))), (12, .int (nI (ba)))]) hx hb dX6_doubles_294 hl (by decide) rfl (fun ls hl => ?_)
                              refine lv_iload hx hb dX6_doubles_296 (lv_at hl 0 rfl) ?_
                              refine lv_if_eq (tgt := 365) hx hb dX6_doubles_298 (by decide) (fun c_298 => ?_) (fun c_298 => ?_)
                              · have c_298 := (cz_eq_n (by omega)).mp c_298
                                exact absurd c_298 (by decide)
                              · have c_298 := (not_congr (cz_eq_n (by omega))).mp c_298
                                refine lv_iload hx hb dX6_doubles_301 (lv_at hl 12 rfl) ?_
                                refine lv_aload_n hx hb dX6_doubles_303 rfl (lv_at hl 3 rfl) ?_
                                refine an_get (ci := 6) (v := .ref (g.2.2 5)) (C := RX6) (T := TX6) (N := 23) hx hb hts iw_X6_doubles_X6 hown hK hP 0 rfl rfl 8 (by decide) (hts _ fl_X6_doubles_22) rfl dX6_doubles_304 ?_
                                refine lv_iload hx hb dX6_doubles_307 (lv_at hl 2 rfl) ?_
                                refine an_iald (f := feet) hx hb hK hP 5 0 rfl rfl (by decide) (by omega) dX6_doubles_309 ?_
                                refine ln_toi (y := (nI (tn (feet (pp (many - 1)))))) (hf9.1) ?_
                                refine ln_iadd hx hb dX6_doubles_310 ?_
                                refine lv_iload_n hx hb dX6_doubles_311 rfl (lv_at hl 4 rfl) ?_
                                refine lv_icmp_ge (tgt := 365) hx hb dX6_doubles_312 (by decide) (fun c_312 => ?_) (fun c_312 => ?_)
                                · have c_312 := (cv_le_nn (by omega) (by omega)).mp c_312
                                  refine lv_lload hx hb dX6_doubles_365 (lv_at hl 10 rfl) ?_
                                  refine lv_iload hx hb dX6_doubles_367 (lv_at hl 0 rfl) ?_
                                  refine lv_if_eq (tgt := 404) hx hb dX6_doubles_369 (by decide) (fun c_369 => ?_) (fun c_369 => ?_)
                                  · have c_369 := (cz_eq_n (by omega)).mp c_369
                                    exact absurd c_369 (by decide)
                                  · have c_369 := (not_congr (cz_eq_n (by omega))).mp c_369
                                    refine lv_iload hx hb dX6_doubles_372 (lv_at hl 13 rfl) ?_
                                    refine lv_aload_n hx hb dX6_doubles_374 rfl (lv_at hl 3 rfl) ?_
                                    refine an_get (ci := 6) (v := .ref (g.2.2 10)) (C := RX6) (T := TX6) (N := 23) hx hb hts iw_X6_doubles_X6 hown hK hP 0 rfl rfl 13 (by decide) (hts _ fl_X6_doubles_39) rfl dX6_doubles_375 ?_
                                    refine lv_iload hx hb dX6_doubles_378 (lv_at hl 2 rfl) ?_
                                    refine an_iald (f := own77) hx hb hK hP 10 0 rfl rfl (by decide) (by omega) dX6_doubles_380 ?_
                                    refine ln_toi (y := (nI ((owf value letter long1 n9 k9) (pp (many - 1))))) (g1.1) ?_
                                    refine ln_iadd hx hb dX6_doubles_381 ?_
                                    refine lv_iload_n hx hb dX6_doubles_382 rfl (lv_at hl 5 rfl) ?_
                                    refine lv_icmp_ne (tgt := 404) hx hb dX6_doubles_383 (by decide) (fun c_383 => ?_) (fun c_383 => ?_)
                                    · have c_383 := (not_congr (cv_eq_nn (by omega) (by omega))).mp c_383
                                      refine lv_lconst (v := (lN (0))) hx hb dX6_doubles_404 (by decide) ?_
                                      refine ln_ladd hx hb dX6_doubles_405 ?_
                                      refine lv_lstore (lv' := [(7, .long (lN (cn + 0))), (15, .int (nI (1))), (14, .int (nI (sS sort pp (many - 1)))), (13, .int (nI (pp (many - 1)))), (0, .ref (g.2.2 0)), (1, .int (nI (f0))), (2, .int (nI (y0))), (3, .int (nI (z0))), (4, .int (nI (n9))), (5, .int (nI (k9))), (6, .int (nI (k8))), (9, .int (nI (many))), (10, .int (nI (fa))), (11, .int (nI (aa))), (12, .int (nI (ba)))]) hx hb dX6_doubles_406 hl (by decide) rfl (fun ls hl => ?_)
                                      refine lv_aload_n hx hb dX6_doubles_408 rfl (lv_at hl 4 rfl) ?_
                                      refine an_get (ci := 6) (v := .ref (g.2.2 12)) (C := RX6) (T := TX6) (N := 23) hx hb hts iw_X6_doubles_X6 hown hK hP 0 rfl rfl 15 (by decide) (hts _ fl_X6_doubles_45) rfl dX6_doubles_409 ?_
                                      refine lv_iload hx hb dX6_doubles_412 (lv_at hl 11 rfl) ?_
                                      refine lv_iconst (v := (nI (1))) hx hb dX6_doubles_414 (by decide) ?_
                                      refine ln_isub hx hb (by omega) dX6_doubles_415 ?_
                                      refine lv_dup2_11 hx hb dX6_doubles_416 rfl rfl ?_
                                      refine an_iald (f := u) hx hb hK hP 12 0 rfl rfl (by decide) (by omega) dX6_doubles_417 ?_
                                      refine ln_toi (y := (nI (pp (many - 1)))) (hu (many - 1) (by omega)) ?_
                                      refine lv_iconst (v := (nI (1))) hx hb dX6_doubles_418 (by decide) ?_
                                      refine ln_iadd hx hb dX6_doubles_419 ?_
                                      refine an_iast (f := u) (ws' := (wM g trace value draft typed (nI (nv)) letter long1 feet sort order left opn own77 other89 (upd (u) (many - 1) (nI ((pp (many - 1)) + 1))) parts frm size isYear isNext ways nextWays)) hx hb hK hP (wM_D hd) hS 12 0 rfl rfl (by decide) (by omega) rfl dX6_doubles_420 (fun H locs hP hS => ?_)
                                      refine lv_goto (tgt := 114) hx hb dX6_doubles_421 (by decide) ?_
                                      have hmz := mz_l (p := pp) (nv := nv) hm1 hvn
                                      exact ih_114 many fa aa ba (cn + 0) (pu pp (many - 1) (pp (many - 1) + 1)) (upd u (many - 1) (nI (pp (many - 1) + 1))) (hm6) (dI_l hD hm1 hvn (by rw [dT_l c_244 (by omega) (by omega) (by omega), if_neg (by omega)])) (hu_l hu) (by omega) _ _ hP hS ls (lv_sub hl [4, 5, 6, 7, 8, 9, 10, 0, 11, 12, 13, 14] rfl)
                                    · have c_383 := (cv_eq_nn (by omega) (by omega)).mp c_383
                                      refine lv_iload hx hb dX6_doubles_386 (lv_at hl 14 rfl) ?_
                                      refine lv_aload_n hx hb dX6_doubles_388 rfl (lv_at hl 3 rfl) ?_
                                      refine an_get (ci := 6) (v := .ref (g.2.2 11)) (C := RX6) (T := TX6) (N := 23) hx hb hts iw_X6_doubles_X6 hown hK hP 0 rfl rfl 14 (by decide) (hts _ fl_X6_doubles_42) rfl dX6_doubles_389 ?_
                                      refine lv_iload hx hb dX6_doubles_392 (lv_at hl 2 rfl) ?_
                                      refine an_iald (f := other89) hx hb hK hP 11 0 rfl rfl (by decide) (by omega) dX6_doubles_394 ?_
                                      refine ln_toi (y := (nI ((owf value letter long1 n9 k8) (pp (many - 1))))) (g2.1) ?_
                                      refine ln_iadd hx hb dX6_doubles_395 ?_
                                      refine lv_iload_n hx hb dX6_doubles_396 rfl (lv_at hl 6 rfl) ?_
                                      refine lv_icmp_ne (tgt := 404) hx hb dX6_doubles_397 (by decide) (fun c_397 => ?_) (fun c_397 => ?_)
                                      · have c_397 := (not_congr (cv_eq_nn (by omega) (by omega))).mp c_397
                                        refine lv_lconst (v := (lN (0))) hx hb dX6_doubles_404 (by decide) ?_
                                        refine ln_ladd hx hb dX6_doubles_405 ?_
                                        refine lv_lstore (lv' := [(7, .long (lN (cn + 0))), (15, .int (nI (1))), (14, .int (nI (sS sort pp (many - 1)))), (13, .int (nI (pp (many - 1)))), (0, .ref (g.2.2 0)), (1, .int (nI (f0))), (2, .int (nI (y0))), (3, .int (nI (z0))), (4, .int (nI (n9))), (5, .int (nI (k9))), (6, .int (nI (k8))), (9, .int (nI (many))), (10, .int (nI (fa))), (11, .int (nI (aa))), (12, .int (nI (ba)))]) hx hb dX6_doubles_406 hl (by decide) rfl (fun ls hl => ?_)
                                        refine lv_aload_n hx hb dX6_doubles_408 rfl (lv_at hl 4 rfl) ?_
                                        refine an_get (ci := 6) (v := .ref (g.2.2 12)) (C := RX6) (T := TX6) (N := 23) hx hb hts iw_X6_doubles_X6 hown hK hP 0 rfl rfl 15 (by decide) (hts _ fl_X6_doubles_45) rfl dX6_doubles_409 ?_
                                        refine lv_iload hx hb dX6_doubles_412 (lv_at hl 11 rfl) ?_
                                        refine lv_iconst (v := (nI (1))) hx hb dX6_doubles_414 (by decide) ?_
                                        refine ln_isub hx hb (by omega) dX6_doubles_415 ?_
                                        refine lv_dup2_11 hx hb dX6_doubles_416 rfl rfl ?_
                                        refine an_iald (f := u) hx hb hK hP 12 0 rfl rfl (by decide) (by omega) dX6_doubles_417 ?_
                                        refine ln_toi (y := (nI (pp (many - 1)))) (hu (many - 1) (by omega)) ?_
                                        refine lv_iconst (v := (nI (1))) hx hb dX6_doubles_418 (by decide) ?_
                                        refine ln_iadd hx hb dX6_doubles_419 ?_
                                        refine an_iast (f := u) (ws' := (wM g trace value draft typed (nI (nv)) letter long1 feet sort order left opn own77 other89 (upd (u) (many - 1) (nI ((pp (many - 1)) + 1))) parts frm size isYear isNext ways nextWays)) hx hb hK hP (wM_D hd) hS 12 0 rfl rfl (by decide) (by omega) rfl dX6_doubles_420 (fun H locs hP hS => ?_)
                                        refine lv_goto (tgt := 114) hx hb dX6_doubles_421 (by decide) ?_
                                        have hmz := mz_l (p := pp) (nv := nv) hm1 hvn
                                        exact ih_114 many fa aa ba (cn + 0) (pu pp (many - 1) (pp (many - 1) + 1)) (upd u (many - 1) (nI (pp (many - 1) + 1))) (hm6) (dI_l hD hm1 hvn (by rw [dT_l c_244 (by omega) (by omega) (by omega), if_neg (by omega)])) (hu_l hu) (by omega) _ _ hP hS ls (lv_sub hl [4, 5, 6, 7, 8, 9, 10, 0, 11, 12, 13, 14] rfl)
                                      · have c_397 := (cv_eq_nn (by omega) (by omega)).mp c_397
                                        refine lv_lconst (v := (lN (1))) hx hb dX6_doubles_400 (by decide) ?_
                                        refine lv_goto (tgt := 405) hx hb dX6_doubles_401 (by decide) ?_
                                        refine ln_ladd hx hb dX6_doubles_405 ?_
                                        refine lv_lstore (lv' := [(7, .long (lN (cn + 1))), (15, .int (nI (1))), (14, .int (nI (sS sort pp (many - 1)))), (13, .int (nI (pp (many - 1)))), (0, .ref (g.2.2 0)), (1, .int (nI (f0))), (2, .int (nI (y0))), (3, .int (nI (z0))), (4, .int (nI (n9))), (5, .int (nI (k9))), (6, .int (nI (k8))), (9, .int (nI (many))), (10, .int (nI (fa))), (11, .int (nI (aa))), (12, .int (nI (ba)))]) hx hb dX6_doubles_406 hl (by decide) rfl (fun ls hl => ?_)
                                        refine lv_aload_n hx hb dX6_doubles_408 rfl (lv_at hl 4 rfl) ?_
                                        refine an_get (ci := 6) (v := .ref (g.2.2 12)) (C := RX6) (T := TX6) (N := 23) hx hb hts iw_X6_doubles_X6 hown hK hP 0 rfl rfl 15 (by decide) (hts _ fl_X6_doubles_45) rfl dX6_doubles_409 ?_
                                        refine lv_iload hx hb dX6_doubles_412 (lv_at hl 11 rfl) ?_
                                        refine lv_iconst (v := (nI (1))) hx hb dX6_doubles_414 (by decide) ?_
                                        refine ln_isub hx hb (by omega) dX6_doubles_415 ?_
                                        refine lv_dup2_11 hx hb dX6_doubles_416 rfl rfl ?_
                                        refine an_iald (f := u) hx hb hK hP 12 0 rfl rfl (by decide) (by omega) dX6_doubles_417 ?_
                                        refine ln_toi (y := (nI (pp (many - 1)))) (hu (many - 1) (by omega)) ?_
                                        refine lv_iconst (v := (nI (1))) hx hb dX6_doubles_418 (by decide) ?_
                                        refine ln_iadd hx hb dX6_doubles_419 ?_
                                        refine an_iast (f := u) (ws' := (wM g trace value draft typed (nI (nv)) letter long1 feet sort order left opn own77 other89 (upd (u) (many - 1) (nI ((pp (many - 1)) + 1))) parts frm size isYear isNext ways nextWays)) hx hb hK hP (wM_D hd) hS 12 0 rfl rfl (by decide) (by omega) rfl dX6_doubles_420 (fun H locs hP hS => ?_)
                                        refine lv_goto (tgt := 114) hx hb dX6_doubles_421 (by decide) ?_
                                        have hmz := mz_l (p := pp) (nv := nv) hm1 hvn
                                        exact ih_114 many fa aa ba (cn + 1) (pu pp (many - 1) (pp (many - 1) + 1)) (upd u (many - 1) (nI (pp (many - 1) + 1))) (hm6) (dI_l hD hm1 hvn (by rw [dT_l c_244 (by omega) (by omega) (by omega), if_pos (by omega)])) (hu_l hu) (by omega) _ _ hP hS ls (lv_sub hl [4, 5, 6, 7, 8, 9, 10, 0, 11, 12, 13, 14] rfl)
                                · have c_312 := (not_congr (cv_le_nn (by omega) (by omega))).mp c_312
                                  refine lv_iload hx hb dX6_doubles_315 (lv_at hl 12 rfl) ?_
                                  refine lv_aload_n hx hb dX6_doubles_317 rfl (lv_at hl 3 rfl) ?_
                                  refine an_get (ci := 6) (v := .ref (g.2.2 5)) (C := RX6) (T := TX6) (N := 23) hx hb hts iw_X6_doubles_X6 hown hK hP 0 rfl rfl 8 (by decide) (hts _ fl_X6_doubles_22) rfl dX6_doubles_318 ?_
                                  refine lv_iload hx hb dX6_doubles_321 (lv_at hl 2 rfl) ?_
                                  refine an_iald (f := feet) hx hb hK hP 5 0 rfl rfl (by decide) (by omega) dX6_doubles_323 ?_
                                  refine ln_toi (y := (nI (tn (feet (pp (many - 1)))))) (hf9.1) ?_
                                  refine ln_iadd hx hb dX6_doubles_324 ?_
                                  refine lv_istore (lv' := [(10, .int (nI (fa + (tn (feet (pp (many - 1))))))), (15, .int (nI (1))), (14, .int (nI (sS sort pp (many - 1)))), (13, .int (nI (pp (many - 1)))), (0, .ref (g.2.2 0)), (1, .int (nI (f0))), (2, .int (nI (y0))), (3, .int (nI (z0))), (4, .int (nI (n9))), (5, .int (nI (k9))), (6, .int (nI (k8))), (7, .long (lN (cn))), (9, .int (nI (many))), (11, .int (nI (aa))), (12, .int (nI (ba)))]) hx hb dX6_doubles_325 hl (by decide) rfl (fun ls hl => ?_)
                                  refine lv_iload hx hb dX6_doubles_327 (lv_at hl 13 rfl) ?_
                                  refine lv_aload_n hx hb dX6_doubles_329 rfl (lv_at hl 4 rfl) ?_
                                  refine an_get (ci := 6) (v := .ref (g.2.2 10)) (C := RX6) (T := TX6) (N := 23) hx hb hts iw_X6_doubles_X6 hown hK hP 0 rfl rfl 13 (by decide) (hts _ fl_X6_doubles_39) rfl dX6_doubles_330 ?_
                                  refine lv_iload hx hb dX6_doubles_333 (lv_at hl 3 rfl) ?_
                                  refine an_iald (f := own77) hx hb hK hP 10 0 rfl rfl (by decide) (by omega) dX6_doubles_335 ?_
                                  refine ln_toi (y := (nI ((owf value letter long1 n9 k9) (pp (many - 1))))) (g1.1) ?_
                                  refine ln_iadd hx hb dX6_doubles_336 ?_
                                  refine lv_istore (lv' := [(11, .int (nI (aa + ((owf value letter long1 n9 k9) (pp (many - 1)))))), (10, .int (nI (fa + (tn (feet (pp (many - 1))))))), (15, .int (nI (1))), (14, .int (nI (sS sort pp (many - 1)))), (13, .int (nI (pp (many - 1)))), (0, .ref (g.2.2 0)), (1, .int (nI (f0))), (2, .int (nI (y0))), (3, .int (nI (z0))), (4, .int (nI (n9))), (5, .int (nI (k9))), (6, .int (nI (k8))), (7, .long (lN (cn))), (9, .int (nI (many))), (12, .int (nI (ba)))]) hx hb dX6_doubles_337 hl (by decide) rfl (fun ls hl => ?_)
                                  refine lv_iload hx hb dX6_doubles_339 (lv_at hl 14 rfl) ?_
                                  refine lv_aload_n hx hb dX6_doubles_341 rfl (lv_at hl 5 rfl) ?_
                                  refine an_get (ci := 6) (v := .ref (g.2.2 11)) (C := RX6) (T := TX6) (N := 23) hx hb hts iw_X6_doubles_X6 hown hK hP 0 rfl rfl 14 (by decide) (hts _ fl_X6_doubles_42) rfl dX6_doubles_342 ?_
                                  refine lv_iload hx hb dX6_doubles_345 (lv_at hl 4 rfl) ?_
                                  refine an_iald (f := other89) hx hb hK hP 11 0 rfl rfl (by decide) (by omega) dX6_doubles_347 ?_
                                  refine ln_toi (y := (nI ((owf value letter long1 n9 k8) (pp (many - 1))))) (g2.1) ?_
                                  refine ln_iadd hx hb dX6_doubles_348 ?_
                                  refine lv_istore (lv' := [(12, .int (nI (ba + ((owf value letter long1 n9 k8) (pp (many - 1)))))), (11, .int (nI (aa + ((owf value letter long1 n9 k9) (pp (many - 1)))))), (10, .int (nI (fa + (tn (feet (pp (many - 1))))))), (15, .int (nI (1))), (14, .int (nI (sS sort pp (many - 1)))), (13, .int (nI (pp (many - 1)))), (0, .ref (g.2.2 0)), (1, .int (nI (f0))), (2, .int (nI (y0))), (3, .int (nI (z0))), (4, .int (nI (n9))), (5, .int (nI (k9))), (6, .int (nI (k8))), (7, .long (lN (cn))), (9, .int (nI (many)))]) hx hb dX6_doubles_349 hl (by decide) rfl (fun ls hl => ?_)
                                  refine lv_aload_n hx hb dX6_doubles_351 rfl (lv_at hl 6 rfl) ?_
                                  refine an_get (ci := 6) (v := .ref (g.2.2 12)) (C := RX6) (T := TX6) (N := 23) hx hb hts iw_X6_doubles_X6 hown hK hP 0 rfl rfl 15 (by decide) (hts _ fl_X6_doubles_45) rfl dX6_doubles_352 ?_
                                  refine lv_iload hx hb dX6_doubles_355 (lv_at hl 14 rfl) ?_
                                  refine lv_iconst (v := (nI (0))) hx hb dX6_doubles_357 (by decide) ?_
                                  refine an_iast (f := u) (ws' := (wM g trace value draft typed (nI (nv)) letter long1 feet sort order left opn own77 other89 (upd (u) (many) (nI (0))) parts frm size isYear isNext ways nextWays)) hx hb hK hP (wM_D hd) hS 12 0 rfl rfl (by decide) (by omega) rfl dX6_doubles_358 (fun H locs hP hS => ?_)
                                  refine lv_iinc (v := (nI (many + 1))) (lv' := [(9, .int (nI (many + 1))), (12, .int (nI (ba + ((owf value letter long1 n9 k8) (pp (many - 1)))))), (11, .int (nI (aa + ((owf value letter long1 n9 k9) (pp (many - 1)))))), (10, .int (nI (fa + (tn (feet (pp (many - 1))))))), (15, .int (nI (1))), (14, .int (nI (sS sort pp (many - 1)))), (13, .int (nI (pp (many - 1)))), (0, .ref (g.2.2 0)), (1, .int (nI (f0))), (2, .int (nI (y0))), (3, .int (nI (z0))), (4, .int (nI (n9))), (5, .int (nI (k9))), (6, .int (nI (k8))), (7, .long (lN (cn)))]) hx hb dX6_doubles_359 hl (k := 14) rfl (nI_add _ 1) (by decide) rfl (fun ls hl => ?_)
                                  refine lv_goto (tgt := 421) hx hb dX6_doubles_362 (by decide) ?_
                                  refine lv_goto (tgt := 114) hx hb dX6_doubles_421 (by decide) ?_
                                  have hmz := mz_d (p := pp) (nv := nv) hm1 hm6 hnv hvn
                                  exact ih_114 (many + 1) (fa + tn (feet (pp (many - 1)))) (aa + (owf value letter long1 n9 k9) (pp (many - 1))) (ba + (owf value letter long1 n9 k8) (pp (many - 1))) cn (pu pp many 0) (upd u many (nI 0)) (by omega) (dI_d hD hm1 hvn c_244 (by omega) (by omega) (by omega)) (hu_d hu) (by omega) _ _ hP hS ls (lv_sub hl [7, 8, 9, 10, 11, 12, 13, 14, 0, 3, 2, 1] rfl)
                    · have c_213 := (cv_eq_nn (by omega) (by omega)).mp c_213
                      refine lv_iconst (v := (nI (3))) hx hb dX6_doubles_216 (by decide) ?_
                      refine ln_toi (y := (nI (sS sort pp (many - 1)))) (by rw [show many - 1 = 0 by omega]; rfl) ?_
                      refine lv_goto (tgt := 234) hx hb dX6_doubles_217 (by decide) ?_
                      refine lv_istore (lv' := [(14, .int (nI (sS sort pp (many - 1)))), (13, .int (nI (pp (many - 1)))), (0, .ref (g.2.2 0)), (1, .int (nI (f0))), (2, .int (nI (y0))), (3, .int (nI (z0))), (4, .int (nI (n9))), (5, .int (nI (k9))), (6, .int (nI (k8))), (7, .long (lN (cn))), (9, .int (nI (many))), (10, .int (nI (fa))), (11, .int (nI (aa))), (12, .int (nI (ba)))]) hx hb dX6_doubles_234 hl (by decide) rfl (fun ls hl => ?_)
                      refine lv_aload_n hx hb dX6_doubles_236 rfl (lv_at hl 2 rfl) ?_
                      refine lv_iload hx hb dX6_doubles_237 (lv_at hl 0 rfl) ?_
                      refine lv_iload hx hb dX6_doubles_239 (lv_at hl 1 rfl) ?_
                      refine ro_call (va_runV (As := [.int (nI (sS sort pp (many - 1))), .int (nI (pp (many - 1)))]) (rest := []) ⟨hx, hb, hml, hown, hts⟩ (c_X6_isAfter l (g := g) (trace := trace) (value := value) (draft := draft) (typed := typed) (vocables := nI (nv)) (letter := letter) (long1 := long1) (feet := feet) (sort := sort) (order := order) (left := left) (opn := opn) (own := own77) (other := other89) (pick := u) (parts := parts) (frm := frm) (size := size) (isYear := isYear) (isNext := isNext) (ways := ways) (nextWays := nextWays) (sS sort pp (many - 1)) (pp (many - 1)) (by omega) (by omega)) (cwV 2 hts gX6_doubles_X6_isAfter rfl rfl rfl (by decide +kernel) ⟨Nat.le_of_ble_eq_true rfl, Nat.le_of_ble_eq_true rfl⟩) (pre_V pW_bl (va_recv hK hP (ci := 6) (q0 := 0) rfl rfl) (fun U hU hW => pW_of hP hK hN hU hW)) rfl rfl hl.1 rfl (lv_room (Nat.le_of_ble_eq_true rfl)) dX6_doubles_241 ⟨Nat.zero_le _, Nat.zero_le _⟩) ?_
                      refine lv_if_eq (tgt := 293) hx hb dX6_doubles_244 (by decide) (fun c_244 => ?_) (fun c_244 => ?_)
                      · have c_244 := if_n c_244
                        refine lv_iconst (v := (nI (0))) hx hb dX6_doubles_293 (by decide) ?_
                        refine lv_istore (lv' := [(15, .int (nI (0))), (14, .int (nI (sS sort pp (many - 1)))), (13, .int (nI (pp (many - 1)))), (0, .ref (g.2.2 0)), (1, .int (nI (f0))), (2, .int (nI (y0))), (3, .int (nI (z0))), (4, .int (nI (n9))), (5, .int (nI (k9))), (6, .int (nI (k8))), (7, .long (lN (cn))), (9, .int (nI (many))), (10, .int (nI (fa))), (11, .int (nI (aa))), (12, .int (nI (ba)))]) hx hb dX6_doubles_294 hl (by decide) rfl (fun ls hl => ?_)
                        refine lv_iload hx hb dX6_doubles_296 (lv_at hl 0 rfl) ?_
                        refine lv_if_eq (tgt := 365) hx hb dX6_doubles_298 (by decide) (fun c_298 => ?_) (fun c_298 => ?_)
                        · have c_298 := (cz_eq_n (by omega)).mp c_298
                          refine lv_lload hx hb dX6_doubles_365 (lv_at hl 10 rfl) ?_
                          refine lv_iload hx hb dX6_doubles_367 (lv_at hl 0 rfl) ?_
                          refine lv_if_eq (tgt := 404) hx hb dX6_doubles_369 (by decide) (fun c_369 => ?_) (fun c_369 => ?_)
                          · have c_369 := (cz_eq_n (by omega)).mp c_369
                            refine lv_lconst (v := (lN (0))) hx hb dX6_doubles_404 (by decide) ?_
                            refine ln_ladd hx hb dX6_doubles_405 ?_
                            refine lv_lstore (lv' := [(7, .long (lN (cn + 0))), (15, .int (nI (0))), (14, .int (nI (sS sort pp (many - 1)))), (13, .int (nI (pp (many - 1)))), (0, .ref (g.2.2 0)), (1, .int (nI (f0))), (2, .int (nI (y0))), (3, .int (nI (z0))), (4, .int (nI (n9))), (5, .int (nI (k9))), (6, .int (nI (k8))), (9, .int (nI (many))), (10, .int (nI (fa))), (11, .int (nI (aa))), (12, .int (nI (ba)))]) hx hb dX6_doubles_406 hl (by decide) rfl (fun ls hl => ?_)
                            refine lv_aload_n hx hb dX6_doubles_408 rfl (lv_at hl 4 rfl) ?_
                            refine an_get (ci := 6) (v := .ref (g.2.2 12)) (C := RX6) (T := TX6) (N := 23) hx hb hts iw_X6_doubles_X6 hown hK hP 0 rfl rfl 15 (by decide) (hts _ fl_X6_doubles_45) rfl dX6_doubles_409 ?_
                            refine lv_iload hx hb dX6_doubles_412 (lv_at hl 11 rfl) ?_
                            refine lv_iconst (v := (nI (1))) hx hb dX6_doubles_414 (by decide) ?_
                            refine ln_isub hx hb (by omega) dX6_doubles_415 ?_
                            refine lv_dup2_11 hx hb dX6_doubles_416 rfl rfl ?_
                            refine an_iald (f := u) hx hb hK hP 12 0 rfl rfl (by decide) (by omega) dX6_doubles_417 ?_
                            refine ln_toi (y := (nI (pp (many - 1)))) (hu (many - 1) (by omega)) ?_
                            refine lv_iconst (v := (nI (1))) hx hb dX6_doubles_418 (by decide) ?_
                            refine ln_iadd hx hb dX6_doubles_419 ?_
                            refine an_iast (f := u) (ws' := (wM g trace value draft typed (nI (nv)) letter long1 feet sort order left opn own77 other89 (upd (u) (many - 1) (nI ((pp (many - 1)) + 1))) parts frm size isYear isNext ways nextWays)) hx hb hK hP (wM_D hd) hS 12 0 rfl rfl (by decide) (by omega) rfl dX6_doubles_420 (fun H locs hP hS => ?_)
                            refine lv_goto (tgt := 114) hx hb dX6_doubles_421 (by decide) ?_
                            have hmz := mz_l (p := pp) (nv := nv) hm1 hvn
                            exact ih_114 many fa aa ba (cn + 0) (pu pp (many - 1) (pp (many - 1) + 1)) (upd u (many - 1) (nI (pp (many - 1) + 1))) (hm6) (dI_l hD hm1 hvn (dT_n c_244)) (hu_l hu) (by omega) _ _ hP hS ls (lv_sub hl [4, 5, 6, 7, 8, 9, 10, 0, 11, 12, 13, 14] rfl)
                          · have c_369 := (not_congr (cz_eq_n (by omega))).mp c_369
                            exact absurd c_369 (by decide)
                        · have c_298 := (not_congr (cz_eq_n (by omega))).mp c_298
                          exact absurd c_298 (by decide)
                      · have c_244 := if_p c_244
                        refine lv_iload hx hb dX6_doubles_247 (lv_at hl 11 rfl) ?_
                        refine lv_aload_n hx hb dX6_doubles_249 rfl (lv_at hl 2 rfl) ?_
                        refine an_get (ci := 6) (v := .ref (g.2.2 5)) (C := RX6) (T := TX6) (N := 23) hx hb hts iw_X6_doubles_X6 hown hK hP 0 rfl rfl 8 (by decide) (hts _ fl_X6_doubles_22) rfl dX6_doubles_250 ?_
                        refine lv_iload hx hb dX6_doubles_253 (lv_at hl 1 rfl) ?_
                        refine an_iald (f := feet) hx hb hK hP 5 0 rfl rfl (by decide) (by omega) dX6_doubles_255 ?_
                        refine ln_toi (y := (nI (tn (feet (pp (many - 1)))))) (hf9.1) ?_
                        refine ln_iadd hx hb dX6_doubles_256 ?_
                        refine lv_iload_n hx hb dX6_doubles_257 rfl (lv_at hl 3 rfl) ?_
                        refine lv_icmp_gt (tgt := 293) hx hb dX6_doubles_258 (by decide) (fun c_258 => ?_) (fun c_258 => ?_)
                        · have c_258 := (cv_lt_nn (by omega) (by omega)).mp c_258
                          refine lv_iconst (v := (nI (0))) hx hb dX6_doubles_293 (by decide) ?_
                          refine lv_istore (lv' := [(15, .int (nI (0))), (14, .int (nI (sS sort pp (many - 1)))), (13, .int (nI (pp (many - 1)))), (0, .ref (g.2.2 0)), (1, .int (nI (f0))), (2, .int (nI (y0))), (3, .int (nI (z0))), (4, .int (nI (n9))), (5, .int (nI (k9))), (6, .int (nI (k8))), (7, .long (lN (cn))), (9, .int (nI (many))), (10, .int (nI (fa))), (11, .int (nI (aa))), (12, .int (nI (ba)))]) hx hb dX6_doubles_294 hl (by decide) rfl (fun ls hl => ?_)
                          refine lv_iload hx hb dX6_doubles_296 (lv_at hl 0 rfl) ?_
                          refine lv_if_eq (tgt := 365) hx hb dX6_doubles_298 (by decide) (fun c_298 => ?_) (fun c_298 => ?_)
                          · have c_298 := (cz_eq_n (by omega)).mp c_298
                            refine lv_lload hx hb dX6_doubles_365 (lv_at hl 10 rfl) ?_
                            refine lv_iload hx hb dX6_doubles_367 (lv_at hl 0 rfl) ?_
                            refine lv_if_eq (tgt := 404) hx hb dX6_doubles_369 (by decide) (fun c_369 => ?_) (fun c_369 => ?_)
                            · have c_369 := (cz_eq_n (by omega)).mp c_369
                              refine lv_lconst (v := (lN (0))) hx hb dX6_doubles_404 (by decide) ?_
                              refine ln_ladd hx hb dX6_doubles_405 ?_
                              refine lv_lstore (lv' := [(7, .long (lN (cn + 0))), (15, .int (nI (0))), (14, .int (nI (sS sort pp (many - 1)))), (13, .int (nI (pp (many - 1)))), (0, .ref (g.2.2 0)), (1, .int (nI (f0))), (2, .int (nI (y0))), (3, .int (nI (z0))), (4, .int (nI (n9))), (5, .int (nI (k9))), (6, .int (nI (k8))), (9, .int (nI (many))), (10, .int (nI (fa))), (11, .int (nI (aa))), (12, .int (nI (ba)))]) hx hb dX6_doubles_406 hl (by decide) rfl (fun ls hl => ?_)
                              refine lv_aload_n hx hb dX6_doubles_408 rfl (lv_at hl 4 rfl) ?_
                              refine an_get (ci := 6) (v := .ref (g.2.2 12)) (C := RX6) (T := TX6) (N := 23) hx hb hts iw_X6_doubles_X6 hown hK hP 0 rfl rfl 15 (by decide) (hts _ fl_X6_doubles_45) rfl dX6_doubles_409 ?_
                              refine lv_iload hx hb dX6_doubles_412 (lv_at hl 11 rfl) ?_
                              refine lv_iconst (v := (nI (1))) hx hb dX6_doubles_414 (by decide) ?_
                              refine ln_isub hx hb (by omega) dX6_doubles_415 ?_
                              refine lv_dup2_11 hx hb dX6_doubles_416 rfl rfl ?_
                              refine an_iald (f := u) hx hb hK hP 12 0 rfl rfl (by decide) (by omega) dX6_doubles_417 ?_
                              refine ln_toi (y := (nI (pp (many - 1)))) (hu (many - 1) (by omega)) ?_
                              refine lv_iconst (v := (nI (1))) hx hb dX6_doubles_418 (by decide) ?_
                              refine ln_iadd hx hb dX6_doubles_419 ?_
                              refine an_iast (f := u) (ws' := (wM g trace value draft typed (nI (nv)) letter long1 feet sort order left opn own77 other89 (upd (u) (many - 1) (nI ((pp (many - 1)) + 1))) parts frm size isYear isNext ways nextWays)) hx hb hK hP (wM_D hd) hS 12 0 rfl rfl (by decide) (by omega) rfl dX6_doubles_420 (fun H locs hP hS => ?_)
                              refine lv_goto (tgt := 114) hx hb dX6_doubles_421 (by decide) ?_
                              have hmz := mz_l (p := pp) (nv := nv) hm1 hvn
                              exact ih_114 many fa aa ba (cn + 0) (pu pp (many - 1) (pp (many - 1) + 1)) (upd u (many - 1) (nI (pp (many - 1) + 1))) (hm6) (dI_l hD hm1 hvn (dT_m (by omega))) (hu_l hu) (by omega) _ _ hP hS ls (lv_sub hl [4, 5, 6, 7, 8, 9, 10, 0, 11, 12, 13, 14] rfl)
                            · have c_369 := (not_congr (cz_eq_n (by omega))).mp c_369
                              exact absurd c_369 (by decide)
                          · have c_298 := (not_congr (cz_eq_n (by omega))).mp c_298
                            exact absurd c_298 (by decide)
                        · have c_258 := (not_congr (cv_lt_nn (by omega) (by omega))).mp c_258
                          refine lv_iload hx hb dX6_doubles_261 (lv_at hl 12 rfl) ?_
                          refine lv_aload_n hx hb dX6_doubles_263 rfl (lv_at hl 2 rfl) ?_
                          refine an_get (ci := 6) (v := .ref (g.2.2 10)) (C := RX6) (T := TX6) (N := 23) hx hb hts iw_X6_doubles_X6 hown hK hP 0 rfl rfl 13 (by decide) (hts _ fl_X6_doubles_39) rfl dX6_doubles_264 ?_
                          refine lv_iload hx hb dX6_doubles_267 (lv_at hl 1 rfl) ?_
                          refine an_iald (f := own77) hx hb hK hP 10 0 rfl rfl (by decide) (by omega) dX6_doubles_269 ?_
                          refine ln_toi (y := (nI ((owf value letter long1 n9 k9) (pp (many - 1))))) (g1.1) ?_
                          refine ln_iadd hx hb dX6_doubles_270 ?_
                          refine lv_iload_n hx hb dX6_doubles_271 rfl (lv_at hl 4 rfl) ?_
                          refine lv_icmp_gt (tgt := 293) hx hb dX6_doubles_272 (by decide) (fun c_272 => ?_) (fun c_272 => ?_)
                          · have c_272 := (cv_lt_nn (by omega) (by omega)).mp c_272
                            refine lv_iconst (v := (nI (0))) hx hb dX6_doubles_293 (by decide) ?_
                            refine lv_istore (lv' := [(15, .int (nI (0))), (14, .int (nI (sS sort pp (many - 1)))), (13, .int (nI (pp (many - 1)))), (0, .ref (g.2.2 0)), (1, .int (nI (f0))), (2, .int (nI (y0))), (3, .int (nI (z0))), (4, .int (nI (n9))), (5, .int (nI (k9))), (6, .int (nI (k8))), (7, .long (lN (cn))), (9, .int (nI (many))), (10, .int (nI (fa))), (11, .int (nI (aa))), (12, .int (nI (ba)))]) hx hb dX6_doubles_294 hl (by decide) rfl (fun ls hl => ?_)
                            refine lv_iload hx hb dX6_doubles_296 (lv_at hl 0 rfl) ?_
                            refine lv_if_eq (tgt := 365) hx hb dX6_doubles_298 (by decide) (fun c_298 => ?_) (fun c_298 => ?_)
                            · have c_298 := (cz_eq_n (by omega)).mp c_298
                              refine lv_lload hx hb dX6_doubles_365 (lv_at hl 10 rfl) ?_
                              refine lv_iload hx hb dX6_doubles_367 (lv_at hl 0 rfl) ?_
                              refine lv_if_eq (tgt := 404) hx hb dX6_doubles_369 (by decide) (fun c_369 => ?_) (fun c_369 => ?_)
                              · have c_369 := (cz_eq_n (by omega)).mp c_369
                                refine lv_lconst (v := (lN (0))) hx hb dX6_doubles_404 (by decide) ?_
                                refine ln_ladd hx hb dX6_doubles_405 ?_
                                refine lv_lstore (lv' := [(7, .long (lN (cn + 0))), (15, .int (nI (0))), (14, .int (nI (sS sort pp (many - 1)))), (13, .int (nI (pp (many - 1)))), (0, .ref (g.2.2 0)), (1, .int (nI (f0))), (2, .int (nI (y0))), (3, .int (nI (z0))), (4, .int (nI (n9))), (5, .int (nI (k9))), (6, .int (nI (k8))), (9, .int (nI (many))), (10, .int (nI (fa))), (11, .int (nI (aa))), (12, .int (nI (ba)))]) hx hb dX6_doubles_406 hl (by decide) rfl (fun ls hl => ?_)
                                refine lv_aload_n hx hb dX6_doubles_408 rfl (lv_at hl 4 rfl) ?_
                                refine an_get (ci := 6) (v := .ref (g.2.2 12)) (C := RX6) (T := TX6) (N := 23) hx hb hts iw_X6_doubles_X6 hown hK hP 0 rfl rfl 15 (by decide) (hts _ fl_X6_doubles_45) rfl dX6_doubles_409 ?_
                                refine lv_iload hx hb dX6_doubles_412 (lv_at hl 11 rfl) ?_
                                refine lv_iconst (v := (nI (1))) hx hb dX6_doubles_414 (by decide) ?_
                                refine ln_isub hx hb (by omega) dX6_doubles_415 ?_
                                refine lv_dup2_11 hx hb dX6_doubles_416 rfl rfl ?_
                                refine an_iald (f := u) hx hb hK hP 12 0 rfl rfl (by decide) (by omega) dX6_doubles_417 ?_
                                refine ln_toi (y := (nI (pp (many - 1)))) (hu (many - 1) (by omega)) ?_
                                refine lv_iconst (v := (nI (1))) hx hb dX6_doubles_418 (by decide) ?_
                                refine ln_iadd hx hb dX6_doubles_419 ?_
                                refine an_iast (f := u) (ws' := (wM g trace value draft typed (nI (nv)) letter long1 feet sort order left opn own77 other89 (upd (u) (many - 1) (nI ((pp (many - 1)) + 1))) parts frm size isYear isNext ways nextWays)) hx hb hK hP (wM_D hd) hS 12 0 rfl rfl (by decide) (by omega) rfl dX6_doubles_420 (fun H locs hP hS => ?_)
                                refine lv_goto (tgt := 114) hx hb dX6_doubles_421 (by decide) ?_
                                have hmz := mz_l (p := pp) (nv := nv) hm1 hvn
                                exact ih_114 many fa aa ba (cn + 0) (pu pp (many - 1) (pp (many - 1) + 1)) (upd u (many - 1) (nI (pp (many - 1) + 1))) (hm6) (dI_l hD hm1 hvn (dT_m (by omega))) (hu_l hu) (by omega) _ _ hP hS ls (lv_sub hl [4, 5, 6, 7, 8, 9, 10, 0, 11, 12, 13, 14] rfl)
                              · have c_369 := (not_congr (cz_eq_n (by omega))).mp c_369
                                exact absurd c_369 (by decide)
                            · have c_298 := (not_congr (cz_eq_n (by omega))).mp c_298
                              exact absurd c_298 (by decide)
                          · have c_272 := (not_congr (cv_lt_nn (by omega) (by omega))).mp c_272
                            refine lv_iload hx hb dX6_doubles_275 (lv_at hl 13 rfl) ?_
                            refine lv_aload_n hx hb dX6_doubles_277 rfl (lv_at hl 2 rfl) ?_
                            refine an_get (ci := 6) (v := .ref (g.2.2 11)) (C := RX6) (T := TX6) (N := 23) hx hb hts iw_X6_doubles_X6 hown hK hP 0 rfl rfl 14 (by decide) (hts _ fl_X6_doubles_42) rfl dX6_doubles_278 ?_
                            refine lv_iload hx hb dX6_doubles_281 (lv_at hl 1 rfl) ?_
                            refine an_iald (f := other89) hx hb hK hP 11 0 rfl rfl (by decide) (by omega) dX6_doubles_283 ?_
                            refine ln_toi (y := (nI ((owf value letter long1 n9 k8) (pp (many - 1))))) (g2.1) ?_
                            refine ln_iadd hx hb dX6_doubles_284 ?_
                            refine lv_iload_n hx hb dX6_doubles_285 rfl (lv_at hl 5 rfl) ?_
                            refine lv_icmp_gt (tgt := 293) hx hb dX6_doubles_286 (by decide) (fun c_286 => ?_) (fun c_286 => ?_)
                            · have c_286 := (cv_lt_nn (by omega) (by omega)).mp c_286
                              refine lv_iconst (v := (nI (0))) hx hb dX6_doubles_293 (by decide) ?_
                              refine lv_istore (lv' := [(15, .int (nI (0))), (14, .int (nI (sS sort pp (many - 1)))), (13, .int (nI (pp (many - 1)))), (0, .ref (g.2.2 0)), (1, .int (nI (f0))), (2, .int (nI (y0))), (3, .int (nI (z0))), (4, .int (nI (n9))), (5, .int (nI (k9))), (6, .int (nI (k8))), (7, .long (lN (cn))), (9, .int (nI (many))), (10, .int (nI (fa))), (11, .int (nI (aa))), (12, .int (nI (ba)))]) hx hb dX6_doubles_294 hl (by decide) rfl (fun ls hl => ?_)
                              refine lv_iload hx hb dX6_doubles_296 (lv_at hl 0 rfl) ?_
                              refine lv_if_eq (tgt := 365) hx hb dX6_doubles_298 (by decide) (fun c_298 => ?_) (fun c_298 => ?_)
                              · have c_298 := (cz_eq_n (by omega)).mp c_298
                                refine lv_lload hx hb dX6_doubles_365 (lv_at hl 10 rfl) ?_
                                refine lv_iload hx hb dX6_doubles_367 (lv_at hl 0 rfl) ?_
                                refine lv_if_eq (tgt := 404) hx hb dX6_doubles_369 (by decide) (fun c_369 => ?_) (fun c_369 => ?_)
                                · have c_369 := (cz_eq_n (by omega)).mp c_369
                                  refine lv_lconst (v := (lN (0))) hx hb dX6_doubles_404 (by decide) ?_
                                  refine ln_ladd hx hb dX6_doubles_405 ?_
                                  refine lv_lstore (lv' := [(7, .long (lN (cn + 0))), (15, .int (nI (0))), (14, .int (nI (sS sort pp (many - 1)))), (13, .int (nI (pp (many - 1)))), (0, .ref (g.2.2 0)), (1, .int (nI (f0))), (2, .int (nI (y0))), (3, .int (nI (z0))), (4, .int (nI (n9))), (5, .int (nI (k9))), (6, .int (nI (k8))), (9, .int (nI (many))), (10, .int (nI (fa))), (11, .int (nI (aa))), (12, .int (nI (ba)))]) hx hb dX6_doubles_406 hl (by decide) rfl (fun ls hl => ?_)
                                  refine lv_aload_n hx hb dX6_doubles_408 rfl (lv_at hl 4 rfl) ?_
                                  refine an_get (ci := 6) (v := .ref (g.2.2 12)) (C := RX6) (T := TX6) (N := 23) hx hb hts iw_X6_doubles_X6 hown hK hP 0 rfl rfl 15 (by decide) (hts _ fl_X6_doubles_45) rfl dX6_doubles_409 ?_
                                  refine lv_iload hx hb dX6_doubles_412 (lv_at hl 11 rfl) ?_
                                  refine lv_iconst (v := (nI (1))) hx hb dX6_doubles_414 (by decide) ?_
                                  refine ln_isub hx hb (by omega) dX6_doubles_415 ?_
                                  refine lv_dup2_11 hx hb dX6_doubles_416 rfl rfl ?_
                                  refine an_iald (f := u) hx hb hK hP 12 0 rfl rfl (by decide) (by omega) dX6_doubles_417 ?_
                                  refine ln_toi (y := (nI (pp (many - 1)))) (hu (many - 1) (by omega)) ?_
                                  refine lv_iconst (v := (nI (1))) hx hb dX6_doubles_418 (by decide) ?_
                                  refine ln_iadd hx hb dX6_doubles_419 ?_
                                  refine an_iast (f := u) (ws' := (wM g trace value draft typed (nI (nv)) letter long1 feet sort order left opn own77 other89 (upd (u) (many - 1) (nI ((pp (many - 1)) + 1))) parts frm size isYear isNext ways nextWays)) hx hb hK hP (wM_D hd) hS 12 0 rfl rfl (by decide) (by omega) rfl dX6_doubles_420 (fun H locs hP hS => ?_)
                                  refine lv_goto (tgt := 114) hx hb dX6_doubles_421 (by decide) ?_
                                  have hmz := mz_l (p := pp) (nv := nv) hm1 hvn
                                  exact ih_114 many fa aa ba (cn + 0) (pu pp (many - 1) (pp (many - 1) + 1)) (upd u (many - 1) (nI (pp (many - 1) + 1))) (hm6) (dI_l hD hm1 hvn (dT_m (by omega))) (hu_l hu) (by omega) _ _ hP hS ls (lv_sub hl [4, 5, 6, 7, 8, 9, 10, 0, 11, 12, 13, 14] rfl)
                                · have c_369 := (not_congr (cz_eq_n (by omega))).mp c_369
                                  exact absurd c_369 (by decide)
                              · have c_298 := (not_congr (cz_eq_n (by omega))).mp c_298
                                exact absurd c_298 (by decide)
                            · have c_286 := (not_congr (cv_lt_nn (by omega) (by omega))).mp c_286
                              refine lv_iconst (v := (nI (1))) hx hb dX6_doubles_289 (by decide) ?_
                              refine lv_goto (tgt := 294) hx hb dX6_doubles_290 (by decide) ?_
                              refine lv_istore (lv' := [(15, .int (nI (1))), (14, .int (nI (sS sort pp (many - 1)))), (13, .int (nI (pp (many - 1)))), (0, .ref (g.2.2 0)), (1, .int (nI (f0))), (2, .int (nI (y0))), (3, .int (nI (z0))), (4, .int (nI (n9))), (5, .int (nI (k9))), (6, .int (nI (k8))), (7, .long (lN (cn))), (9, .int (nI (many))), (10, .int (nI (fa))), (11, .int (nI (aa))), (12, .int (nI (ba)))]) hx hb dX6_doubles_294 hl (by decide) rfl (fun ls hl => ?_)
                              refine lv_iload hx hb dX6_doubles_296 (lv_at hl 0 rfl) ?_
                              refine lv_if_eq (tgt := 365) hx hb dX6_doubles_298 (by decide) (fun c_298 => ?_) (fun c_298 => ?_)
                              · have c_298 := (cz_eq_n (by omega)).mp c_298
                                exact absurd c_298 (by decide)
                              · have c_298 := (not_congr (cz_eq_n (by omega))).mp c_298
                                refine lv_iload hx hb dX6_doubles_301 (lv_at hl 12 rfl) ?_
                                refine lv_aload_n hx hb dX6_doubles_303 rfl (lv_at hl 3 rfl) ?_
                                refine an_get (ci := 6) (v := .ref (g.2.2 5)) (C := RX6) (T := TX6) (N := 23) hx hb hts iw_X6_doubles_X6 hown hK hP 0 rfl rfl 8 (by decide) (hts _ fl_X6_doubles_22) rfl dX6_doubles_304 ?_
                                refine lv_iload hx hb dX6_doubles_307 (lv_at hl 2 rfl) ?_
                                refine an_iald (f := feet) hx hb hK hP 5 0 rfl rfl (by decide) (by omega) dX6_doubles_309 ?_
                                refine ln_toi (y := (nI (tn (feet (pp (many - 1)))))) (hf9.1) ?_
                                refine ln_iadd hx hb dX6_doubles_310 ?_
                                refine lv_iload_n hx hb dX6_doubles_311 rfl (lv_at hl 4 rfl) ?_
                                refine lv_icmp_ge (tgt := 365) hx hb dX6_doubles_312 (by decide) (fun c_312 => ?_) (fun c_312 => ?_)
                                · have c_312 := (cv_le_nn (by omega) (by omega)).mp c_312
                                  refine lv_lload hx hb dX6_doubles_365 (lv_at hl 10 rfl) ?_
                                  refine lv_iload hx hb dX6_doubles_367 (lv_at hl 0 rfl) ?_
                                  refine lv_if_eq (tgt := 404) hx hb dX6_doubles_369 (by decide) (fun c_369 => ?_) (fun c_369 => ?_)
                                  · have c_369 := (cz_eq_n (by omega)).mp c_369
                                    exact absurd c_369 (by decide)
                                  · have c_369 := (not_congr (cz_eq_n (by omega))).mp c_369
                                    refine lv_iload hx hb dX6_doubles_372 (lv_at hl 13 rfl) ?_
                                    refine lv_aload_n hx hb dX6_doubles_374 rfl (lv_at hl 3 rfl) ?_
                                    refine an_get (ci := 6) (v := .ref (g.2.2 10)) (C := RX6) (T := TX6) (N := 23) hx hb hts iw_X6_doubles_X6 hown hK hP 0 rfl rfl 13 (by decide) (hts _ fl_X6_doubles_39) rfl dX6_doubles_375 ?_
                                    refine lv_iload hx hb dX6_doubles_378 (lv_at hl 2 rfl) ?_
                                    refine an_iald (f := own77) hx hb hK hP 10 0 rfl rfl (by decide) (by omega) dX6_doubles_380 ?_
                                    refine ln_toi (y := (nI ((owf value letter long1 n9 k9) (pp (many - 1))))) (g1.1) ?_
                                    refine ln_iadd hx hb dX6_doubles_381 ?_
                                    refine lv_iload_n hx hb dX6_doubles_382 rfl (lv_at hl 5 rfl) ?_
                                    refine lv_icmp_ne (tgt := 404) hx hb dX6_doubles_383 (by decide) (fun c_383 => ?_) (fun c_383 => ?_)
                                    · have c_383 := (not_congr (cv_eq_nn (by omega) (by omega))).mp c_383
                                      refine lv_lconst (v := (lN (0))) hx hb dX6_doubles_404 (by decide) ?_
                                      refine ln_ladd hx hb dX6_doubles_405 ?_
                                      refine lv_lstore (lv' := [(7, .long (lN (cn + 0))), (15, .int (nI (1))), (14, .int (nI (sS sort pp (many - 1)))), (13, .int (nI (pp (many - 1)))), (0, .ref (g.2.2 0)), (1, .int (nI (f0))), (2, .int (nI (y0))), (3, .int (nI (z0))), (4, .int (nI (n9))), (5, .int (nI (k9))), (6, .int (nI (k8))), (9, .int (nI (many))), (10, .int (nI (fa))), (11, .int (nI (aa))), (12, .int (nI (ba)))]) hx hb dX6_doubles_406 hl (by decide) rfl (fun ls hl => ?_)
                                      refine lv_aload_n hx hb dX6_doubles_408 rfl (lv_at hl 4 rfl) ?_
                                      refine an_get (ci := 6) (v := .ref (g.2.2 12)) (C := RX6) (T := TX6) (N := 23) hx hb hts iw_X6_doubles_X6 hown hK hP 0 rfl rfl 15 (by decide) (hts _ fl_X6_doubles_45) rfl dX6_doubles_409 ?_
                                      refine lv_iload hx hb dX6_doubles_412 (lv_at hl 11 rfl) ?_
                                      refine lv_iconst (v := (nI (1))) hx hb dX6_doubles_414 (by decide) ?_
                                      refine ln_isub hx hb (by omega) dX6_doubles_415 ?_
                                      refine lv_dup2_11 hx hb dX6_doubles_416 rfl rfl ?_
                                      refine an_iald (f := u) hx hb hK hP 12 0 rfl rfl (by decide) (by omega) dX6_doubles_417 ?_
                                      refine ln_toi (y := (nI (pp (many - 1)))) (hu (many - 1) (by omega)) ?_
                                      refine lv_iconst (v := (nI (1))) hx hb dX6_doubles_418 (by decide) ?_
                                      refine ln_iadd hx hb dX6_doubles_419 ?_
                                      refine an_iast (f := u) (ws' := (wM g trace value draft typed (nI (nv)) letter long1 feet sort order left opn own77 other89 (upd (u) (many - 1) (nI ((pp (many - 1)) + 1))) parts frm size isYear isNext ways nextWays)) hx hb hK hP (wM_D hd) hS 12 0 rfl rfl (by decide) (by omega) rfl dX6_doubles_420 (fun H locs hP hS => ?_)
                                      refine lv_goto (tgt := 114) hx hb dX6_doubles_421 (by decide) ?_
                                      have hmz := mz_l (p := pp) (nv := nv) hm1 hvn
                                      exact ih_114 many fa aa ba (cn + 0) (pu pp (many - 1) (pp (many - 1) + 1)) (upd u (many - 1) (nI (pp (many - 1) + 1))) (hm6) (dI_l hD hm1 hvn (by rw [dT_l c_244 (by omega) (by omega) (by omega), if_neg (by omega)])) (hu_l hu) (by omega) _ _ hP hS ls (lv_sub hl [4, 5, 6, 7, 8, 9, 10, 0, 11, 12, 13, 14] rfl)
                                    · have c_383 := (cv_eq_nn (by omega) (by omega)).mp c_383
                                      refine lv_iload hx hb dX6_doubles_386 (lv_at hl 14 rfl) ?_
                                      refine lv_aload_n hx hb dX6_doubles_388 rfl (lv_at hl 3 rfl) ?_
                                      refine an_get (ci := 6) (v := .ref (g.2.2 11)) (C := RX6) (T := TX6) (N := 23) hx hb hts iw_X6_doubles_X6 hown hK hP 0 rfl rfl 14 (by decide) (hts _ fl_X6_doubles_42) rfl dX6_doubles_389 ?_
                                      refine lv_iload hx hb dX6_doubles_392 (lv_at hl 2 rfl) ?_
                                      refine an_iald (f := other89) hx hb hK hP 11 0 rfl rfl (by decide) (by omega) dX6_doubles_394 ?_
                                      refine ln_toi (y := (nI ((owf value letter long1 n9 k8) (pp (many - 1))))) (g2.1) ?_
                                      refine ln_iadd hx hb dX6_doubles_395 ?_
                                      refine lv_iload_n hx hb dX6_doubles_396 rfl (lv_at hl 6 rfl) ?_
                                      refine lv_icmp_ne (tgt := 404) hx hb dX6_doubles_397 (by decide) (fun c_397 => ?_) (fun c_397 => ?_)
                                      · have c_397 := (not_congr (cv_eq_nn (by omega) (by omega))).mp c_397
                                        refine lv_lconst (v := (lN (0))) hx hb dX6_doubles_404 (by decide) ?_
                                        refine ln_ladd hx hb dX6_doubles_405 ?_
                                        refine lv_lstore (lv' := [(7, .long (lN (cn + 0))), (15, .int (nI (1))), (14, .int (nI (sS sort pp (many - 1)))), (13, .int (nI (pp (many - 1)))), (0, .ref (g.2.2 0)), (1, .int (nI (f0))), (2, .int (nI (y0))), (3, .int (nI (z0))), (4, .int (nI (n9))), (5, .int (nI (k9))), (6, .int (nI (k8))), (9, .int (nI (many))), (10, .int (nI (fa))), (11, .int (nI (aa))), (12, .int (nI (ba)))]) hx hb dX6_doubles_406 hl (by decide) rfl (fun ls hl => ?_)
                                        refine lv_aload_n hx hb dX6_doubles_408 rfl (lv_at hl 4 rfl) ?_
                                        refine an_get (ci := 6) (v := .ref (g.2.2 12)) (C := RX6) (T := TX6) (N := 23) hx hb hts iw_X6_doubles_X6 hown hK hP 0 rfl rfl 15 (by decide) (hts _ fl_X6_doubles_45) rfl dX6_doubles_409 ?_
                                        refine lv_iload hx hb dX6_doubles_412 (lv_at hl 11 rfl) ?_
                                        refine lv_iconst (v := (nI (1))) hx hb dX6_doubles_414 (by decide) ?_
                                        refine ln_isub hx hb (by omega) dX6_doubles_415 ?_
                                        refine lv_dup2_11 hx hb dX6_doubles_416 rfl rfl ?_
                                        refine an_iald (f := u) hx hb hK hP 12 0 rfl rfl (by decide) (by omega) dX6_doubles_417 ?_
                                        refine ln_toi (y := (nI (pp (many - 1)))) (hu (many - 1) (by omega)) ?_
                                        refine lv_iconst (v := (nI (1))) hx hb dX6_doubles_418 (by decide) ?_
                                        refine ln_iadd hx hb dX6_doubles_419 ?_
                                        refine an_iast (f := u) (ws' := (wM g trace value draft typed (nI (nv)) letter long1 feet sort order left opn own77 other89 (upd (u) (many - 1) (nI ((pp (many - 1)) + 1))) parts frm size isYear isNext ways nextWays)) hx hb hK hP (wM_D hd) hS 12 0 rfl rfl (by decide) (by omega) rfl dX6_doubles_420 (fun H locs hP hS => ?_)
                                        refine lv_goto (tgt := 114) hx hb dX6_doubles_421 (by decide) ?_
                                        have hmz := mz_l (p := pp) (nv := nv) hm1 hvn
                                        exact ih_114 many fa aa ba (cn + 0) (pu pp (many - 1) (pp (many - 1) + 1)) (upd u (many - 1) (nI (pp (many - 1) + 1))) (hm6) (dI_l hD hm1 hvn (by rw [dT_l c_244 (by omega) (by omega) (by omega), if_neg (by omega)])) (hu_l hu) (by omega) _ _ hP hS ls (lv_sub hl [4, 5, 6, 7, 8, 9, 10, 0, 11, 12, 13, 14] rfl)
                                      · have c_397 := (cv_eq_nn (by omega) (by omega)).mp c_397
                                        refine lv_lconst (v := (lN (1))) hx hb dX6_doubles_400 (by decide) ?_
                                        refine lv_goto (tgt := 405) hx hb dX6_doubles_401 (by decide) ?_
                                        refine ln_ladd hx hb dX6_doubles_405 ?_
                                        refine lv_lstore (lv' := [(7, .long (lN (cn + 1))), (15, .int (nI (1))), (14, .int (nI (sS sort pp (many - 1)))), (13, .int (nI (pp (many - 1)))), (0, .ref (g.2.2 0)), (1, .int (nI (f0))), (2, .int (nI (y0))), (3, .int (nI (z0))), (4, .int (nI (n9))), (5, .int (nI (k9))), (6, .int (nI (k8))), (9, .int (nI (many))), (10, .int (nI (fa))), (11, .int (nI (aa))), (12, .int (nI (ba)))]) hx hb dX6_doubles_406 hl (by decide) rfl (fun ls hl => ?_)
                                        refine lv_aload_n hx hb dX6_doubles_408 rfl (lv_at hl 4 rfl) ?_
                                        refine an_get (ci := 6) (v := .ref (g.2.2 12)) (C := RX6) (T := TX6) (N := 23) hx hb hts iw_X6_doubles_X6 hown hK hP 0 rfl rfl 15 (by decide) (hts _ fl_X6_doubles_45) rfl dX6_doubles_409 ?_
                                        refine lv_iload hx hb dX6_doubles_412 (lv_at hl 11 rfl) ?_
                                        refine lv_iconst (v := (nI (1))) hx hb dX6_doubles_414 (by decide) ?_
                                        refine ln_isub hx hb (by omega) dX6_doubles_415 ?_
                                        refine lv_dup2_11 hx hb dX6_doubles_416 rfl rfl ?_
                                        refine an_iald (f := u) hx hb hK hP 12 0 rfl rfl (by decide) (by omega) dX6_doubles_417 ?_
                                        refine ln_toi (y := (nI (pp (many - 1)))) (hu (many - 1) (by omega)) ?_
                                        refine lv_iconst (v := (nI (1))) hx hb dX6_doubles_418 (by decide) ?_
                                        refine ln_iadd hx hb dX6_doubles_419 ?_
                                        refine an_iast (f := u) (ws' := (wM g trace value draft typed (nI (nv)) letter long1 feet sort order left opn own77 other89 (upd (u) (many - 1) (nI ((pp (many - 1)) + 1))) parts frm size isYear isNext ways nextWays)) hx hb hK hP (wM_D hd) hS 12 0 rfl rfl (by decide) (by omega) rfl dX6_doubles_420 (fun H locs hP hS => ?_)
                                        refine lv_goto (tgt := 114) hx hb dX6_doubles_421 (by decide) ?_
                                        have hmz := mz_l (p := pp) (nv := nv) hm1 hvn
                                        exact ih_114 many fa aa ba (cn + 1) (pu pp (many - 1) (pp (many - 1) + 1)) (upd u (many - 1) (nI (pp (many - 1) + 1))) (hm6) (dI_l hD hm1 hvn (by rw [dT_l c_244 (by omega) (by omega) (by omega), if_pos (by omega)])) (hu_l hu) (by omega) _ _ hP hS ls (lv_sub hl [4, 5, 6, 7, 8, 9, 10, 0, 11, 12, 13, 14] rfl)
                                · have c_312 := (not_congr (cv_le_nn (by omega) (by omega))).mp c_312
                                  refine lv_iload hx hb dX6_doubles_315 (lv_at hl 12 rfl) ?_
                                  refine lv_aload_n hx hb dX6_doubles_317 rfl (lv_at hl 3 rfl) ?_
                                  refine an_get (ci := 6) (v := .ref (g.2.2 5)) (C := RX6) (T := TX6) (N := 23) hx hb hts iw_X6_doubles_X6 hown hK hP 0 rfl rfl 8 (by decide) (hts _ fl_X6_doubles_22) rfl dX6_doubles_318 ?_
                                  refine lv_iload hx hb dX6_doubles_321 (lv_at hl 2 rfl) ?_
                                  refine an_iald (f := feet) hx hb hK hP 5 0 rfl rfl (by decide) (by omega) dX6_doubles_323 ?_
                                  refine ln_toi (y := (nI (tn (feet (pp (many - 1)))))) (hf9.1) ?_
                                  refine ln_iadd hx hb dX6_doubles_324 ?_
                                  refine lv_istore (lv' := [(10, .int (nI (fa + (tn (feet (pp (many - 1))))))), (15, .int (nI (1))), (14, .int (nI (sS sort pp (many - 1)))), (13, .int (nI (pp (many - 1)))), (0, .ref (g.2.2 0)), (1, .int (nI (f0))), (2, .int (nI (y0))), (3, .int (nI (z0))), (4, .int (nI (n9))), (5, .int (nI (k9))), (6, .int (nI (k8))), (7, .long (lN (cn))), (9, .int (nI (many))), (11, .int (nI (aa))), (12, .int (nI (ba)))]) hx hb dX6_doubles_325 hl (by decide) rfl (fun ls hl => ?_)
                                  refine lv_iload hx hb dX6_doubles_327 (lv_at hl 13 rfl) ?_
                                  refine lv_aload_n hx hb dX6_doubles_329 rfl (lv_at hl 4 rfl) ?_
                                  refine an_get (ci := 6) (v := .ref (g.2.2 10)) (C := RX6) (T := TX6) (N := 23) hx hb hts iw_X6_doubles_X6 hown hK hP 0 rfl rfl 13 (by decide) (hts _ fl_X6_doubles_39) rfl dX6_doubles_330 ?_
                                  refine lv_iload hx hb dX6_doubles_333 (lv_at hl 3 rfl) ?_
                                  refine an_iald (f := own77) hx hb hK hP 10 0 rfl rfl (by decide) (by omega) dX6_doubles_335 ?_
                                  refine ln_toi (y := (nI ((owf value letter long1 n9 k9) (pp (many - 1))))) (g1.1) ?_
                                  refine ln_iadd hx hb dX6_doubles_336 ?_
                                  refine lv_istore (lv' := [(11, .int (nI (aa + ((owf value letter long1 n9 k9) (pp (many - 1)))))), (10, .int (nI (fa + (tn (feet (pp (many - 1))))))), (15, .int (nI (1))), (14, .int (nI (sS sort pp (many - 1)))), (13, .int (nI (pp (many - 1)))), (0, .ref (g.2.2 0)), (1, .int (nI (f0))), (2, .int (nI (y0))), (3, .int (nI (z0))), (4, .int (nI (n9))), (5, .int (nI (k9))), (6, .int (nI (k8))), (7, .long (lN (cn))), (9, .int (nI (many))), (12, .int (nI (ba)))]) hx hb dX6_doubles_337 hl (by decide) rfl (fun ls hl => ?_)
                                  refine lv_iload hx hb dX6_doubles_339 (lv_at hl 14 rfl) ?_
                                  refine lv_aload_n hx hb dX6_doubles_341 rfl (lv_at hl 5 rfl) ?_
                                  refine an_get (ci := 6) (v := .ref (g.2.2 11)) (C := RX6) (T := TX6) (N := 23) hx hb hts iw_X6_doubles_X6 hown hK hP 0 rfl rfl 14 (by decide) (hts _ fl_X6_doubles_42) rfl dX6_doubles_342 ?_
                                  refine lv_iload hx hb dX6_doubles_345 (lv_at hl 4 rfl) ?_
                                  refine an_iald (f := other89) hx hb hK hP 11 0 rfl rfl (by decide) (by omega) dX6_doubles_347 ?_
                                  refine ln_toi (y := (nI ((owf value letter long1 n9 k8) (pp (many - 1))))) (g2.1) ?_
                                  refine ln_iadd hx hb dX6_doubles_348 ?_
                                  refine lv_istore (lv' := [(12, .int (nI (ba + ((owf value letter long1 n9 k8) (pp (many - 1)))))), (11, .int (nI (aa + ((owf value letter long1 n9 k9) (pp (many - 1)))))), (10, .int (nI (fa + (tn (feet (pp (many - 1))))))), (15, .int (nI (1))), (14, .int (nI (sS sort pp (many - 1)))), (13, .int (nI (pp (many - 1)))), (0, .ref (g.2.2 0)), (1, .int (nI (f0))), (2, .int (nI (y0))), (3, .int (nI (z0))), (4, .int (nI (n9))), (5, .int (nI (k9))), (6, .int (nI (k8))), (7, .long (lN (cn))), (9, .int (nI (many)))]) hx hb dX6_doubles_349 hl (by decide) rfl (fun ls hl => ?_)
                                  refine lv_aload_n hx hb dX6_doubles_351 rfl (lv_at hl 6 rfl) ?_
                                  refine an_get (ci := 6) (v := .ref (g.2.2 12)) (C := RX6) (T := TX6) (N := 23) hx hb hts iw_X6_doubles_X6 hown hK hP 0 rfl rfl 15 (by decide) (hts _ fl_X6_doubles_45) rfl dX6_doubles_352 ?_
                                  refine lv_iload hx hb dX6_doubles_355 (lv_at hl 14 rfl) ?_
                                  refine lv_iconst (v := (nI (0))) hx hb dX6_doubles_357 (by decide) ?_
                                  refine an_iast (f := u) (ws' := (wM g trace value draft typed (nI (nv)) letter long1 feet sort order left opn own77 other89 (upd (u) (many) (nI (0))) parts frm size isYear isNext ways nextWays)) hx hb hK hP (wM_D hd) hS 12 0 rfl rfl (by decide) (by omega) rfl dX6_doubles_358 (fun H locs hP hS => ?_)
                                  refine lv_iinc (v := (nI (many + 1))) (lv' := [(9, .int (nI (many + 1))), (12, .int (nI (ba + ((owf value letter long1 n9 k8) (pp (many - 1)))))), (11, .int (nI (aa + ((owf value letter long1 n9 k9) (pp (many - 1)))))), (10, .int (nI (fa + (tn (feet (pp (many - 1))))))), (15, .int (nI (1))), (14, .int (nI (sS sort pp (many - 1)))), (13, .int (nI (pp (many - 1)))), (0, .ref (g.2.2 0)), (1, .int (nI (f0))), (2, .int (nI (y0))), (3, .int (nI (z0))), (4, .int (nI (n9))), (5, .int (nI (k9))), (6, .int (nI (k8))), (7, .long (lN (cn)))]) hx hb dX6_doubles_359 hl (k := 14) rfl (nI_add _ 1) (by decide) rfl (fun ls hl => ?_)
                                  refine lv_goto (tgt := 421) hx hb dX6_doubles_362 (by decide) ?_
                                  refine lv_goto (tgt := 114) hx hb dX6_doubles_421 (by decide) ?_
                                  have hmz := mz_d (p := pp) (nv := nv) hm1 hm6 hnv hvn
                                  exact ih_114 (many + 1) (fa + tn (feet (pp (many - 1)))) (aa + (owf value letter long1 n9 k9) (pp (many - 1))) (ba + (owf value letter long1 n9 k8) (pp (many - 1))) cn (pu pp many 0) (upd u many (nI 0)) (by omega) (dI_d hD hm1 hvn c_244 (by omega) (by omega) (by omega)) (hu_d hu) (by omega) _ _ hP hS ls (lv_sub hl [7, 8, 9, 10, 11, 12, 13, 14, 0, 3, 2, 1] rfl)
                  · have c_136 := (cv_eq_nn (by omega) (by omega)).mp c_136
                    refine lv_iinc (v := (nI (many - 1))) (lv' := [(9, .int (nI (many - 1))), (13, .int (nI (pp (many - 1)))), (0, .ref (g.2.2 0)), (1, .int (nI (f0))), (2, .int (nI (y0))), (3, .int (nI (z0))), (4, .int (nI (n9))), (5, .int (nI (k9))), (6, .int (nI (k8))), (7, .long (lN (cn))), (10, .int (nI (fa))), (11, .int (nI (aa))), (12, .int (nI (ba)))]) hx hb dX6_doubles_139 hl (k := 9) rfl ((inc_m1 rfl).trans (pk_sub (by omega))) (by decide) rfl (fun ls hl => ?_)
                    refine lv_iload hx hb dX6_doubles_142 (lv_at hl 0 rfl) ?_
                    refine lv_if_le (tgt := 114) hx hb dX6_doubles_144 (by decide) (fun c_144 => ?_) (fun c_144 => ?_)
                    · have c_144 := (cz_le_n (by omega)).mp c_144
                      have hmz := mz_z (q := pp) (p := pp) (nv := nv) (show many = 1 by omega)
                      exact ih_114 (many - 1) fa aa ba cn pp u (by omega) (dI_z hD (by omega) c_136 hfe (by omega)) (fun l hl => absurd hl (by omega)) (by omega) _ _ hP hS ls (lv_sub hl [2, 3, 4, 5, 6, 7, 8, 9, 0, 10, 11, 12] rfl)
                    · have c_144 := (not_congr (cz_le_n (by omega))).mp c_144
                      obtain ⟨hp2, hpf, hpa, hpb⟩ := dI_q hD (by omega)
                      have hf9 := hfe _ hp2
                      have g1 := hq1 _ hp2
                      have g2 := hq2 _ hp2
                      refine lv_aload_n hx hb dX6_doubles_147 rfl (lv_at hl 2 rfl) ?_
                      refine an_get (ci := 6) (v := .ref (g.2.2 12)) (C := RX6) (T := TX6) (N := 23) hx hb hts iw_X6_doubles_X6 hown hK hP 0 rfl rfl 15 (by decide) (hts _ fl_X6_doubles_45) rfl dX6_doubles_148 ?_
                      refine lv_iload hx hb dX6_doubles_151 (lv_at hl 0 rfl) ?_
                      refine lv_iconst (v := (nI (1))) hx hb dX6_doubles_153 (by decide) ?_
                      refine ln_isub hx hb (by omega) dX6_doubles_154 ?_
                      refine an_iald (f := u) hx hb hK hP 12 0 rfl rfl (by decide) (by omega) dX6_doubles_155 ?_
                      refine ln_toi (y := (nI (pp (many - 1 - 1)))) (hu (many - 1 - 1) (by omega)) ?_
                      refine lv_istore (lv' := [(13, .int (nI (pp (many - 1 - 1)))), (9, .int (nI (many - 1))), (0, .ref (g.2.2 0)), (1, .int (nI (f0))), (2, .int (nI (y0))), (3, .int (nI (z0))), (4, .int (nI (n9))), (5, .int (nI (k9))), (6, .int (nI (k8))), (7, .long (lN (cn))), (10, .int (nI (fa))), (11, .int (nI (aa))), (12, .int (nI (ba)))]) hx hb dX6_doubles_156 hl (by decide) rfl (fun ls hl => ?_)
                      refine lv_iload hx hb dX6_doubles_158 (lv_at hl 10 rfl) ?_
                      refine lv_aload_n hx hb dX6_doubles_160 rfl (lv_at hl 2 rfl) ?_
                      refine an_get (ci := 6) (v := .ref (g.2.2 5)) (C := RX6) (T := TX6) (N := 23) hx hb hts iw_X6_doubles_X6 hown hK hP 0 rfl rfl 8 (by decide) (hts _ fl_X6_doubles_22) rfl dX6_doubles_161 ?_
                      refine lv_iload hx hb dX6_doubles_164 (lv_at hl 0 rfl) ?_
                      refine an_iald (f := feet) hx hb hK hP 5 0 rfl rfl (by decide) (by omega) dX6_doubles_166 ?_
                      refine ln_toi (y := (nI (tn (feet (pp (many - 1 - 1)))))) (hf9.1) ?_
                      refine ln_isub hx hb (by omega) dX6_doubles_167 ?_
                      refine lv_istore (lv' := [(10, .int (nI (fa - (tn (feet (pp (many - 1 - 1))))))), (13, .int (nI (pp (many - 1 - 1)))), (9, .int (nI (many - 1))), (0, .ref (g.2.2 0)), (1, .int (nI (f0))), (2, .int (nI (y0))), (3, .int (nI (z0))), (4, .int (nI (n9))), (5, .int (nI (k9))), (6, .int (nI (k8))), (7, .long (lN (cn))), (11, .int (nI (aa))), (12, .int (nI (ba)))]) hx hb dX6_doubles_168 hl (by decide) rfl (fun ls hl => ?_)
                      refine lv_iload hx hb dX6_doubles_170 (lv_at hl 11 rfl) ?_
                      refine lv_aload_n hx hb dX6_doubles_172 rfl (lv_at hl 3 rfl) ?_
                      refine an_get (ci := 6) (v := .ref (g.2.2 10)) (C := RX6) (T := TX6) (N := 23) hx hb hts iw_X6_doubles_X6 hown hK hP 0 rfl rfl 13 (by decide) (hts _ fl_X6_doubles_39) rfl dX6_doubles_173 ?_
                      refine lv_iload hx hb dX6_doubles_176 (lv_at hl 1 rfl) ?_
                      refine an_iald (f := own77) hx hb hK hP 10 0 rfl rfl (by decide) (by omega) dX6_doubles_178 ?_
                      refine ln_toi (y := (nI ((owf value letter long1 n9 k9) (pp (many - 1 - 1))))) (g1.1) ?_
                      refine ln_isub hx hb (by omega) dX6_doubles_179 ?_
                      refine lv_istore (lv' := [(11, .int (nI (aa - ((owf value letter long1 n9 k9) (pp (many - 1 - 1)))))), (10, .int (nI (fa - (tn (feet (pp (many - 1 - 1))))))), (13, .int (nI (pp (many - 1 - 1)))), (9, .int (nI (many - 1))), (0, .ref (g.2.2 0)), (1, .int (nI (f0))), (2, .int (nI (y0))), (3, .int (nI (z0))), (4, .int (nI (n9))), (5, .int (nI (k9))), (6, .int (nI (k8))), (7, .long (lN (cn))), (12, .int (nI (ba)))]) hx hb dX6_doubles_180 hl (by decide) rfl (fun ls hl => ?_)
                      refine lv_iload hx hb dX6_doubles_182 (lv_at hl 12 rfl) ?_
                      refine lv_aload_n hx hb dX6_doubles_184 rfl (lv_at hl 4 rfl) ?_
                      refine an_get (ci := 6) (v := .ref (g.2.2 11)) (C := RX6) (T := TX6) (N := 23) hx hb hts iw_X6_doubles_X6 hown hK hP 0 rfl rfl 14 (by decide) (hts _ fl_X6_doubles_42) rfl dX6_doubles_185 ?_
                      refine lv_iload hx hb dX6_doubles_188 (lv_at hl 2 rfl) ?_
                      refine an_iald (f := other89) hx hb hK hP 11 0 rfl rfl (by decide) (by omega) dX6_doubles_190 ?_
                      refine ln_toi (y := (nI ((owf value letter long1 n9 k8) (pp (many - 1 - 1))))) (g2.1) ?_
                      refine ln_isub hx hb (by omega) dX6_doubles_191 ?_
                      refine lv_istore (lv' := [(12, .int (nI (ba - ((owf value letter long1 n9 k8) (pp (many - 1 - 1)))))), (11, .int (nI (aa - ((owf value letter long1 n9 k9) (pp (many - 1 - 1)))))), (10, .int (nI (fa - (tn (feet (pp (many - 1 - 1))))))), (13, .int (nI (pp (many - 1 - 1)))), (9, .int (nI (many - 1))), (0, .ref (g.2.2 0)), (1, .int (nI (f0))), (2, .int (nI (y0))), (3, .int (nI (z0))), (4, .int (nI (n9))), (5, .int (nI (k9))), (6, .int (nI (k8))), (7, .long (lN (cn)))]) hx hb dX6_doubles_192 hl (by decide) rfl (fun ls hl => ?_)
                      refine lv_aload_n hx hb dX6_doubles_194 rfl (lv_at hl 5 rfl) ?_
                      refine an_get (ci := 6) (v := .ref (g.2.2 12)) (C := RX6) (T := TX6) (N := 23) hx hb hts iw_X6_doubles_X6 hown hK hP 0 rfl rfl 15 (by decide) (hts _ fl_X6_doubles_45) rfl dX6_doubles_195 ?_
                      refine lv_iload hx hb dX6_doubles_198 (lv_at hl 4 rfl) ?_
                      refine lv_iconst (v := (nI (1))) hx hb dX6_doubles_200 (by decide) ?_
                      refine ln_isub hx hb (by omega) dX6_doubles_201 ?_
                      refine lv_dup2_11 hx hb dX6_doubles_202 rfl rfl ?_
                      refine an_iald (f := u) hx hb hK hP 12 0 rfl rfl (by decide) (by omega) dX6_doubles_203 ?_
                      refine ln_toi (y := (nI (pp (many - 1 - 1)))) (hu (many - 1 - 1) (by omega)) ?_
                      refine lv_iconst (v := (nI (1))) hx hb dX6_doubles_204 (by decide) ?_
                      refine ln_iadd hx hb dX6_doubles_205 ?_
                      refine an_iast (f := u) (ws' := (wM g trace value draft typed (nI (nv)) letter long1 feet sort order left opn own77 other89 (upd (u) ((many - 1) - 1) (nI ((pp (many - 1 - 1)) + 1))) parts frm size isYear isNext ways nextWays)) hx hb hK hP (wM_D hd) hS 12 0 rfl rfl (by decide) (by omega) rfl dX6_doubles_206 (fun H locs hP hS => ?_)
                      refine lv_goto (tgt := 114) hx hb dX6_doubles_207 (by decide) ?_
                      have hmz := mz_p (p := pp) (nv := nv) (show 2 ≤ many by omega) c_136 hp2
                      exact ih_114 (many - 1) (fa - tn (feet (pp (many - 1 - 1)))) (aa - (owf value letter long1 n9 k9) (pp (many - 1 - 1))) (ba - (owf value letter long1 n9 k8) (pp (many - 1 - 1))) cn (pu pp (many - 1 - 1) (pp (many - 1 - 1) + 1)) (upd u (many - 1 - 1) (nI (pp (many - 1 - 1) + 1))) (by omega) (dI_p hD (by omega) c_136 hfe) (hu_l (fun l hl => hu l (by omega))) (by omega) _ _ hP hS ls (lv_sub hl [5, 6, 7, 8, 9, 10, 11, 12, 4, 2, 1, 0] rfl)
            exact lp_114 (mz ((fun _ => 0)) nv (1) + 1) 1 0 0 0 0 (fun _ => 0) (upd pick 0 (nI 0)) (by omega) (dI_0) (fun l h => by rw [show l = 0 by omega]; exact pk_us) (Nat.lt_succ_self _) _ _ hP hS ls (lv_sub hl [5, 6, 7, 8, 9, 10, 11, 4, 3, 2, 1, 0] rfl)
          · have c_61 := if_n c_61
            refine lv_ldc2 hx hb hown (hts (.constantLong RX6 129 (-1)) (by decide +kernel)) dX6_doubles_64 ?_
            exact wr_lret (own, other, pick) hx hb hr hlocks (by rw [if_neg (by omega)]) (fun t ht => show va_P g.1 vwCl (wM g trace value draft typed (nI (nv)) letter long1 feet sort order left opn own other pick parts frm size isYear isNext ways nextWays) t.heap by rw [ht]; exact hP) hS dX6_doubles_67
