theorem iw_X3_waysWith_X3 : ∀ w ∈ u_ws RX3 TX3 10, w ∈ wsX3_waysWith := by decide +kernel
theorem iw_X3_waysWith_X4 : ∀ w ∈ u_ws RX4 TX4 6, w ∈ wsX3_waysWith := by decide +kernel
theorem fl_X3_waysWith_9 : Cond.fieldLink RX3 9 (TX3 2).1 (TX3 2).2.1 (TX3 2).2.2.1 ∈ wsX3_waysWith := by decide +kernel
theorem fl_X3_waysWith_32 : Cond.fieldLink RX3 32 (TX3 0).1 (TX3 0).2.1 (TX3 0).2.2.1 ∈ wsX3_waysWith := by decide +kernel
theorem fl_X3_waysWith_50 : Cond.fieldLink RX3 50 (TX4 2).1 (TX4 2).2.1 (TX4 2).2.2.1 ∈ wsX3_waysWith := by decide +kernel
theorem fl_X3_waysWith_57 : Cond.fieldLink RX3 57 (TX4 3).1 (TX4 3).2.1 (TX4 3).2.2.1 ∈ wsX3_waysWith := by decide +kernel
set_option maxHeartbeats 200000 in
set_option maxRecDepth 100000 in
theorem c_X3_waysWith (l : Launch) {g : GW} {asked : Int64} {values : Nat → Int32} {bytes : Nat → Int32} {starts : Nat → Int32} {ends : Nat → Int32} {length : Int32} {parts : Int32} {texts : Nat → Int32} {lengths : Nat → Int32} {feet : Nat → Int32} {sorts : Nat → Int32} {nxt : Nat → Int32} {nv : Nat} {sums : Nat → Int32} {oneSums : Nat → Int32} {otherSums : Nat → Int32} {byFeet : Nat → Int64} {kept : Nat → Int64} {over : Int32} {rcount : Int32} {rcust : Int32} {ssums : Nat → Int32} {ways : Nat → Int64} {nextWays : Nat → Int64} {reached : Nat → Int64} {nextReached : Nat → Int64} {found : Int32} {least : Int32} {greatest : Int32} {sz : Nat} (vocable : Nat) (behind : Nat) (ft : Nat) (rest : Nat) (hv : vocable < nv) (hbe : behind < 4) (hft : ft ≤ 8) (hre : rest ≤ 3000) (ow : Nat → Nat) (hnv : nv ≤ 10) (hfe : okV feet nv 1 3) (hso : okV sorts nv 0 2) (hsu : ∀ v, v < nv → sums v = nI (ow v) ∧ ow v ≤ 8000) (hkp : keptOK kept (lwy feet sorts nxt ow nv)) (IH : ∀ f2, f2 < ft → KW l g asked values bytes starts ends length parts texts lengths feet sorts nxt sums oneSums otherSums byFeet over rcount rcust ssums ways nextWays reached nextReached found least greatest nv ow f2) (hd : dW 25 g.2.2) : Met l yX3_waysWith wsX3_waysWith ({ frames := 3 * ft + 1, cells := 0, slots := 0, locals := 90 * ft + 30 }) (va_Pc ([.ref (g.2.2 13), .int (nI (vocable)), .int (nI (behind)), .int (nI (ft)), .int (nI (rest))]) (qW g (wX g asked values bytes starts ends length parts texts lengths feet sorts nxt (nI (nv)) sums oneSums otherSums byFeet kept over rcount rcust ssums ways nextWays reached nextReached found least greatest) sz)) (va_Ql (fun (r : Int64) (z : (Nat → Int64)) => r = lN (lst feet sorts nxt ow (lwy feet sorts nxt ow nv) ft behind rest vocable) ∧ keptOK z (lwy feet sorts nxt ow nv)) (fun (z : (Nat → Int64)) (t : State) => va_P g.1 vwCl (wX g asked values bytes starts ends length parts texts lengths feet sorts nxt (nI (nv)) sums oneSums otherSums byFeet z over rcount rcust ssums ways nextWays reached nextReached found least greatest) t.heap) (aW 25 g.2.2 sz)) 0 0 (aW 25 g.2.2 sz) := by
  refine Met.ofW (cc := cX3_waysWith) (maxL := 7) (ret := (some .long)) (by decide) rfl ?_
  intro p e s m args below meth c s₁ B hml hv
  obtain ⟨rfl, hsz9, hP, hK, hN⟩ := hv
  subst hsz9
  have hx := B.exec
  have hb := B.bytes
  have hr := B.returns
  have hts := atoms_spec (ws := wsX3_waysWith) B.pre
  have hown : s.vm.findClass RX3 = some m.cls := findClass_of_methodNamed B.named
  have hlocks := B.notSynchronized
  have hS : va_S (aW 25 g.2.2 s.heap.size) s.heap s.heap [] := va_S.rf
  have hl := lv_entry ([.ref (g.2.2 13), .int (nI (vocable)), .int (nI (behind)), .int (nI (ft)), .int (nI (rest))]) (n := 7) (Nat.le_of_ble_eq_true rfl)
  rw [lg_entry_eq]
  generalize (lg_sl ([.ref (g.2.2 13), .int (nI (vocable)), .int (nI (behind)), .int (nI (ft)), .int (nI (rest))]) ++ List.replicate (7 - (lg_sl ([.ref (g.2.2 13), .int (nI (vocable)), .int (nI (behind)), .int (nI (ft)), .int (nI (rest))])).length) Slot.unset).toArray = ls at hl ⊢
  have hl : lv_has ls 7 [(0, .ref (g.2.2 13)), (1, .int (nI (vocable))), (2, .int (nI (behind))), (3, .int (nI (ft))), (4, .int (nI (rest)))] := hl
  have hf9 := hfe vocable hv
  have hs9 := hso vocable hv
  have ho9 := hsu vocable hv
  have h5 := pk_sub_toInt (a := ft) (b := tn (feet vocable)) (by omega) (by omega)
  have h6 := pk_sub_toInt (a := rest) (b := ow vocable) (by omega) (by omega)
  refine lv_iload_n hx hb dX3_waysWith_0 rfl (lv_at hl 3 rfl) ?_
  refine lv_aload_n hx hb dX3_waysWith_1 rfl (lv_at hl 0 rfl) ?_
  refine an_get (ci := 3) (v := .ref (g.2.2 7)) (C := RX3) (T := TX3) (N := 10) hx hb hts iw_X3_waysWith_X3 hown hK hP 13 rfl rfl 0 (by decide) (hts _ fl_X3_waysWith_32) rfl dX3_waysWith_2 ?_
  refine an_get (ci := 4) (v := .ref (g.2.2 10)) (C := RX4) (T := TX4) (N := 6) hx hb hts iw_X3_waysWith_X4 hown hK hP 7 rfl rfl 2 (by decide) (hts _ fl_X3_waysWith_50) rfl dX3_waysWith_5 ?_
  refine lv_iload_n hx hb dX3_waysWith_8 rfl (lv_at hl 1 rfl) ?_
  refine an_iald (f := feet) hx hb hK hP 10 0 rfl rfl (by decide) (by omega) dX3_waysWith_9 ?_
  refine ln_toi (y := (nI (tn (feet vocable)))) (hf9.1) ?_
  refine lv_isub hx hb dX3_waysWith_10 ?_
  refine lv_istore (lv' := [(5, .int ((nI (ft)) - (nI (tn (feet vocable))))), (0, .ref (g.2.2 13)), (1, .int (nI (vocable))), (2, .int (nI (behind))), (3, .int (nI (ft))), (4, .int (nI (rest)))]) hx hb dX3_waysWith_11 hl (by decide) rfl (fun ls hl => ?_)
  refine lv_iload hx hb dX3_waysWith_13 (lv_at hl 5 rfl) ?_
  refine lv_aload_n hx hb dX3_waysWith_15 rfl (lv_at hl 1 rfl) ?_
  refine an_get (ci := 3) (v := .ref (g.2.2 14)) (C := RX3) (T := TX3) (N := 10) hx hb hts iw_X3_waysWith_X3 hown hK hP 13 rfl rfl 2 (by decide) (hts _ fl_X3_waysWith_9) rfl dX3_waysWith_16 ?_
  refine lv_iload_n hx hb dX3_waysWith_19 rfl (lv_at hl 2 rfl) ?_
  refine an_iald (f := sums) hx hb hK hP 14 0 rfl rfl (by decide) (by omega) dX3_waysWith_20 ?_
  refine ln_toi (y := (nI (ow vocable))) (ho9.1) ?_
  refine lv_isub hx hb dX3_waysWith_21 ?_
  refine lv_istore (lv' := [(6, .int ((nI (rest)) - (nI (ow vocable)))), (5, .int ((nI (ft)) - (nI (tn (feet vocable))))), (0, .ref (g.2.2 13)), (1, .int (nI (vocable))), (2, .int (nI (behind))), (3, .int (nI (ft))), (4, .int (nI (rest)))]) hx hb dX3_waysWith_22 hl (by decide) rfl (fun ls hl => ?_)
  refine lv_iload hx hb dX3_waysWith_24 (lv_at hl 1 rfl) ?_
  refine lv_if_lt (tgt := 46) hx hb dX3_waysWith_26 (by decide) (fun c_26 => ?_) (fun c_26 => ?_)
  · have c_26 := (cz_lt_i).mp c_26
    refine lv_lconst (v := (lN (0))) hx hb dX3_waysWith_46 (by decide) ?_
    exact wr_lret (kept) hx hb hr hlocks (by first | exact ⟨congrArg lN (lst_n (fun q => absurd q.1 (by omega))), hkp⟩ | exact ⟨congrArg lN (lst_n (fun q => absurd q.2.1 (by omega))), hkp⟩ | exact ⟨congrArg lN (lst_n (fun q => c_43 q.2.2)), hkp⟩) (fun t ht => show va_P g.1 vwCl (wX g asked values bytes starts ends length parts texts lengths feet sorts nxt (nI (nv)) sums oneSums otherSums byFeet kept over rcount rcust ssums ways nextWays reached nextReached found least greatest) t.heap by rw [ht]; exact hP) hS dX3_waysWith_47
  · have c_26 := (not_congr (cz_lt_i)).mp c_26
    refine lv_iload hx hb dX3_waysWith_29 (lv_at hl 0 rfl) ?_
    refine lv_if_lt (tgt := 46) hx hb dX3_waysWith_31 (by decide) (fun c_31 => ?_) (fun c_31 => ?_)
    · have c_31 := (cz_lt_i).mp c_31
      refine lv_lconst (v := (lN (0))) hx hb dX3_waysWith_46 (by decide) ?_
      exact wr_lret (kept) hx hb hr hlocks (by first | exact ⟨congrArg lN (lst_n (fun q => absurd q.1 (by omega))), hkp⟩ | exact ⟨congrArg lN (lst_n (fun q => absurd q.2.1 (by omega))), hkp⟩ | exact ⟨congrArg lN (lst_n (fun q => c_43 q.2.2)), hkp⟩) (fun t ht => show va_P g.1 vwCl (wX g asked values bytes starts ends length parts texts lengths feet sorts nxt (nI (nv)) sums oneSums otherSums byFeet kept over rcount rcust ssums ways nextWays reached nextReached found least greatest) t.heap by rw [ht]; exact hP) hS dX3_waysWith_47
    · have c_31 := (not_congr (cz_lt_i)).mp c_31
      rw [pk_sub (show tn (feet vocable) ≤ ft by omega), pk_sub (show ow vocable ≤ rest by omega)] at hl
      refine lv_aload_n hx hb dX3_waysWith_34 rfl (lv_at hl 2 rfl) ?_
      refine an_get (ci := 3) (v := .ref (g.2.2 7)) (C := RX3) (T := TX3) (N := 10) hx hb hts iw_X3_waysWith_X3 hown hK hP 13 rfl rfl 0 (by decide) (hts _ fl_X3_waysWith_32) rfl dX3_waysWith_35 ?_
      refine lv_iload_n hx hb dX3_waysWith_38 rfl (lv_at hl 4 rfl) ?_
      refine lv_iload_n hx hb dX3_waysWith_39 rfl (lv_at hl 3 rfl) ?_
      refine ro_call (va_runV (As := [.int (nI (behind)), .int (nI (vocable))]) (rest := []) ⟨hx, hb, hml, hown, hts⟩ (c_X4_mayCome l (g := g) (asked := asked) (values := values) (bytes := bytes) (starts := starts) (ends := ends) (length := length) (parts := parts) (texts := texts) (lengths := lengths) (feet := feet) (sorts := sorts) (nxt := nxt) (size := nI (nv)) (sums := sums) (oneSums := oneSums) (otherSums := otherSums) (byFeet := byFeet) (kept := kept) (over := over) (rcount := rcount) (rcust := rcust) (ssums := ssums) (ways := ways) (nextWays := nextWays) (reached := reached) (nextReached := nextReached) (found := found) (least := least) (greatest := greatest) (behind) (vocable) hbe (by omega)) (cwV 2 hts gX3_waysWith_X4_mayCome rfl rfl rfl (by decide +kernel) ⟨show 0 + 1 ≤ 3 * ft + 1 by omega, show 8 + (3 + 11) + 0 ≤ 90 * ft + 30 by omega⟩) (pre_V pW_bl (va_recv hK hP (ci := 4) (q0 := 7) rfl rfl) (fun U hU hW => pW_of hP hK hN hU hW)) rfl rfl hl.1 rfl (lv_room (Nat.le_of_ble_eq_true rfl)) dX3_waysWith_40 ⟨Nat.zero_le _, Nat.zero_le _⟩) ?_
      refine lv_if_ne (tgt := 48) hx hb dX3_waysWith_43 (by decide) (fun c_43 => ?_) (fun c_43 => ?_)
      · have c_43 := if_p c_43
        refine lv_aload_n hx hb dX3_waysWith_48 rfl (lv_at hl 2 rfl) ?_
        refine lv_aload_n hx hb dX3_waysWith_49 rfl (lv_at hl 2 rfl) ?_
        refine an_get (ci := 3) (v := .ref (g.2.2 7)) (C := RX3) (T := TX3) (N := 10) hx hb hts iw_X3_waysWith_X3 hown hK hP 13 rfl rfl 0 (by decide) (hts _ fl_X3_waysWith_32) rfl dX3_waysWith_50 ?_
        refine an_get (ci := 4) (v := .ref (g.2.2 11)) (C := RX4) (T := TX4) (N := 6) hx hb hts iw_X3_waysWith_X4 hown hK hP 7 rfl rfl 3 (by decide) (hts _ fl_X3_waysWith_57) rfl dX3_waysWith_53 ?_
        refine lv_iload_n hx hb dX3_waysWith_56 rfl (lv_at hl 3 rfl) ?_
        refine an_iald (f := sorts) hx hb hK hP 11 0 rfl rfl (by decide) (by omega) dX3_waysWith_57 ?_
        refine ln_toi (y := (nI (tn (sorts vocable)))) (hs9.1) ?_
        refine lv_iload hx hb dX3_waysWith_58 (lv_at hl 1 rfl) ?_
        refine lv_iload hx hb dX3_waysWith_60 (lv_at hl 0 rfl) ?_
        refine wr_calll (w := (fun (z : (Nat → Int64)) => (wX g asked values bytes starts ends length parts texts lengths feet sorts nxt (nI (nv)) sums oneSums otherSums byFeet z over rcount rcust ssums ways nextWays reached nextReached found least greatest))) (va_runV (As := [.int (nI (tn (sorts vocable))), .int (nI (ft - tn (feet vocable))), .int (nI (rest - ow vocable))]) (rest := []) ⟨hx, hb, hml, hown, hts⟩ (IH (ft - tn (feet vocable)) (by omega) (tn (sorts vocable)) (rest - ow vocable) kept _ (by omega) (by omega) hkp) (cwV 3 hts gX3_waysWith_X3_waysOn rfl rfl rfl (by decide +kernel) ⟨show 3 * (ft - tn (feet vocable)) + 3 + 1 ≤ 3 * ft + 1 by omega, show 8 + (10 + 11) + (90 * (ft - tn (feet vocable)) + 90) ≤ 90 * ft + 30 by omega⟩) (pre_V qW_bl (va_recv hK hP (ci := 3) (q0 := 13) rfl rfl) (fun U hU hW => ⟨by rw [hU], pW_of hP hK hN hU hW⟩)) rfl rfl hl.1 rfl (lv_room (Nat.le_of_ble_eq_true rfl)) dX3_waysWith_62 ⟨Nat.zero_le _, Nat.zero_le _⟩) hS (fun r62 kept62 H locs hp62 hP hS => ?_)
        have hP : va_P g.1 vwCl (wX g asked values bytes starts ends length parts texts lengths feet sorts nxt (nI (nv)) sums oneSums otherSums byFeet kept62 over rcount rcust ssums ways nextWays reached nextReached found least greatest) H := hP
        exact wr_lret (kept62) hx hb hr hlocks (⟨hp62.1.trans (congrArg lN (lst_y (by omega) (by omega) c_43)), hp62.2⟩) (fun t ht => show va_P g.1 vwCl (wX g asked values bytes starts ends length parts texts lengths feet sorts nxt (nI (nv)) sums oneSums otherSums byFeet kept62 over rcount rcust ssums ways nextWays reached nextReached found least greatest) t.heap by rw [ht]; exact hP) hS dX3_waysWith_65
      · have c_43 := if_n c_43
        refine lv_lconst (v := (lN (0))) hx hb dX3_waysWith_46 (by decide) ?_
        exact wr_lret (kept) hx hb hr hlocks (by first | exact ⟨congrArg lN (lst_n (fun q => absurd q.1 (by omega))), hkp⟩ | exact ⟨congrArg lN (lst_n (fun q => absurd q.2.1 (by omega))), hkp⟩ | exact ⟨congrArg lN (lst_n (fun q => c_43 q.2.2)), hkp⟩) (fun t ht => show va_P g.1 vwCl (wX g asked values bytes starts ends length parts texts lengths feet sorts nxt (nI (nv)) sums oneSums otherSums byFeet kept over rcount rcust ssums ways nextWays reached nextReached found least greatest) t.heap by rw [ht]; exact hP) hS dX3_waysWith_47
theorem iw_X3_countWaysOn_X3 : ∀ w ∈ u_ws RX3 TX3 10, w ∈ wsX3_countWaysOn := by decide +kernel
theorem iw_X3_countWaysOn_X4 : ∀ w ∈ u_ws RX4 TX4 6, w ∈ wsX3_countWaysOn := by decide +kernel
theorem fl_X3_countWaysOn_32 : Cond.fieldLink RX3 32 (TX3 0).1 (TX3 0).2.1 (TX3 0).2.2.1 ∈ wsX3_countWaysOn := by decide +kernel
theorem fl_X3_countWaysOn_44 : Cond.fieldLink RX3 44 (TX4 5).1 (TX4 5).2.1 (TX4 5).2.2.1 ∈ wsX3_countWaysOn := by decide +kernel
set_option maxHeartbeats 200000 in
set_option maxRecDepth 100000 in
theorem c_X3_countWaysOn (l : Launch) {g : GW} {asked : Int64} {values : Nat → Int32} {bytes : Nat → Int32} {starts : Nat → Int32} {ends : Nat → Int32} {length : Int32} {parts : Int32} {texts : Nat → Int32} {lengths : Nat → Int32} {feet : Nat → Int32} {sorts : Nat → Int32} {nxt : Nat → Int32} {nv : Nat} {sums : Nat → Int32} {oneSums : Nat → Int32} {otherSums : Nat → Int32} {byFeet : Nat → Int64} {kept : Nat → Int64} {over : Int32} {rcount : Int32} {rcust : Int32} {ssums : Nat → Int32} {ways : Nat → Int64} {nextWays : Nat → Int64} {reached : Nat → Int64} {nextReached : Nat → Int64} {found : Int32} {least : Int32} {greatest : Int32} {sz : Nat} (behind : Nat) (ft : Nat) (rest : Nat) (hbe : behind < 4) (hf1 : 1 ≤ ft) (hft : ft ≤ 8) (hre : rest ≤ 3000) (ow : Nat → Nat) (hnv : nv ≤ 10) (hfe : okV feet nv 1 3) (hso : okV sorts nv 0 2) (hsu : ∀ v, v < nv → sums v = nI (ow v) ∧ ow v ≤ 8000) (hkp : keptOK kept (lwy feet sorts nxt ow nv)) (IH : ∀ f2, f2 < ft → KW l g asked values bytes starts ends length parts texts lengths feet sorts nxt sums oneSums otherSums byFeet over rcount rcust ssums ways nextWays reached nextReached found least greatest nv ow f2) (hd : dW 25 g.2.2) : Met l yX3_countWaysOn wsX3_countWaysOn ({ frames := 3 * ft + 2, cells := 0, slots := 0, locals := 90 * ft + 60 }) (va_Pc ([.ref (g.2.2 13), .int (nI (behind)), .int (nI (ft)), .int (nI (rest))]) (qW g (wX g asked values bytes starts ends length parts texts lengths feet sorts nxt (nI (nv)) sums oneSums otherSums byFeet kept over rcount rcust ssums ways nextWays reached nextReached found least greatest) sz)) (va_Ql (fun (r : Int64) (z : (Nat → Int64)) => r = lN (lwy feet sorts nxt ow nv ft behind rest) ∧ keptOK z (lwy feet sorts nxt ow nv)) (fun (z : (Nat → Int64)) (t : State) => va_P g.1 vwCl (wX g asked values bytes starts ends length parts texts lengths feet sorts nxt (nI (nv)) sums oneSums otherSums byFeet z over rcount rcust ssums ways nextWays reached nextReached found least greatest) t.heap) (aW 25 g.2.2 sz)) 0 0 (aW 25 g.2.2 sz) := by
  refine Met.ofW (cc := cX3_countWaysOn) (maxL := 7) (ret := (some .long)) (by decide) rfl ?_
  intro p e s m args below meth c s₁ B hml hv
  obtain ⟨rfl, hsz9, hP, hK, hN⟩ := hv
  subst hsz9
  have hx := B.exec
  have hb := B.bytes
  have hr := B.returns
  have hts := atoms_spec (ws := wsX3_countWaysOn) B.pre
  have hown : s.vm.findClass RX3 = some m.cls := findClass_of_methodNamed B.named
  have hlocks := B.notSynchronized
  have hS : va_S (aW 25 g.2.2 s.heap.size) s.heap s.heap [] := va_S.rf
  have hl := lv_entry ([.ref (g.2.2 13), .int (nI (behind)), .int (nI (ft)), .int (nI (rest))]) (n := 7) (Nat.le_of_ble_eq_true rfl)
  rw [lg_entry_eq]
  generalize (lg_sl ([.ref (g.2.2 13), .int (nI (behind)), .int (nI (ft)), .int (nI (rest))]) ++ List.replicate (7 - (lg_sl ([.ref (g.2.2 13), .int (nI (behind)), .int (nI (ft)), .int (nI (rest))])).length) Slot.unset).toArray = ls at hl ⊢
  have hl : lv_has ls 7 [(0, .ref (g.2.2 13)), (1, .int (nI (behind))), (2, .int (nI (ft))), (3, .int (nI (rest)))] := hl
  refine lv_lconst (v := (lN (0))) hx hb dX3_countWaysOn_0 (by decide) ?_
  refine lv_lstore (lv' := [(4, .long (lN (0))), (0, .ref (g.2.2 13)), (1, .int (nI (behind))), (2, .int (nI (ft))), (3, .int (nI (rest)))]) hx hb dX3_countWaysOn_1 hl (by decide) rfl (fun ls hl => ?_)
  refine lv_iconst (v := (nI (0))) hx hb dX3_countWaysOn_3 (by decide) ?_
  refine lv_istore (lv' := [(6, .int (nI (0))), (4, .long (lN (0))), (0, .ref (g.2.2 13)), (1, .int (nI (behind))), (2, .int (nI (ft))), (3, .int (nI (rest)))]) hx hb dX3_countWaysOn_4 hl (by decide) rfl (fun ls hl => ?_)
  have lp_6 : ∀ (n : Nat) (i : Nat) (kp : Nat → Int64), (i ≤ nv) → (keptOK kp (lwy feet sorts nxt ow nv)) → nv - i < n → ∀ (H : Heap) (locs : List Loc), va_P g.1 vwCl (wX g asked values bytes starts ends length parts texts lengths feet sorts nxt (nI (nv)) sums oneSums otherSums byFeet kp over rcount rcust ssums ways nextWays reached nextReached found least greatest) H → va_S (aW 25 g.2.2 s.heap.size) s.heap H locs → ∀ (ls : Array Slot), lv_has ls 7 [(0, .ref (g.2.2 13)), (1, .int (nI (behind))), (2, .int (nI (ft))), (3, .int (nI (rest))), (4, .long (lN (lsq feet sorts nxt ow (lwy feet sorts nxt ow nv) ft behind rest i))), (6, .int (nI (i)))] → W p l e (headSpec wsX3_countWaysOn ({ frames := 3 * ft + 2, cells := 0, slots := 0, locals := 90 * ft + 60 })).room s m (([.ref (g.2.2 13), .int (nI (behind)), .int (nI (ft)), .int (nI (rest))] : List Value).toArray) below meth c H locs 0 0 (MQ below (va_Ql (fun (r : Int64) (z : (Nat → Int64)) => r = lN (lwy feet sorts nxt ow nv ft behind rest) ∧ keptOK z (lwy feet sorts nxt ow nv)) (fun (z : (Nat → Int64)) (t : State) => va_P g.1 vwCl (wX g asked values bytes starts ends length parts texts lengths feet sorts nxt (nI (nv)) sums oneSums otherSums byFeet z over rcount rcust ssums ways nextWays reached nextReached found least greatest) t.heap) (aW 25 g.2.2 s.heap.size)) (([.ref (g.2.2 13), .int (nI (behind)), .int (nI (ft)), .int (nI (rest))] : List Value).toArray) s 0 0 (aW 25 g.2.2 s.heap.size)) (F0 m 6 ls []) := by
    intro n
    induction n with
    | zero => intro i kp hi hkq hm; exact absurd hm (Nat.not_lt_zero _)
    | succ n ih_6 =>
      intro i kp hi hkq hm_6 H locs hP hS ls hl
      refine lv_iload hx hb dX3_countWaysOn_6 (lv_at hl 5 rfl) ?_
      refine lv_aload_n hx hb dX3_countWaysOn_8 rfl (lv_at hl 0 rfl) ?_
      refine an_get (ci := 3) (v := .ref (g.2.2 7)) (C := RX3) (T := TX3) (N := 10) hx hb hts iw_X3_countWaysOn_X3 hown hK hP 13 rfl rfl 0 (by decide) (hts _ fl_X3_countWaysOn_32) rfl dX3_countWaysOn_9 ?_
      refine an_get (ci := 4) (v := .int (nI (nv))) (C := RX4) (T := TX4) (N := 6) hx hb hts iw_X3_countWaysOn_X4 hown hK hP 7 rfl rfl 5 (by decide) (hts _ fl_X3_countWaysOn_44) rfl dX3_countWaysOn_12 ?_
      refine lv_icmp_ge (tgt := 38) hx hb dX3_countWaysOn_15 (by decide) (fun c_15 => ?_) (fun c_15 => ?_)
      · have c_15 := (cv_le_nn (by omega) (by omega)).mp c_15
        refine lv_lload hx hb dX3_countWaysOn_38 (lv_at hl 4 rfl) ?_
        exact wr_lret (kp) hx hb hr hlocks (⟨by rw [show i = nv by omega, lwy_s hfe hf1], hkq⟩) (fun t ht => show va_P g.1 vwCl (wX g asked values bytes starts ends length parts texts lengths feet sorts nxt (nI (nv)) sums oneSums otherSums byFeet kp over rcount rcust ssums ways nextWays reached nextReached found least greatest) t.heap by rw [ht]; exact hP) hS dX3_countWaysOn_40
      · have c_15 := (not_congr (cv_le_nn (by omega) (by omega))).mp c_15
        refine lv_lload hx hb dX3_countWaysOn_18 (lv_at hl 4 rfl) ?_
        refine lv_aload_n hx hb dX3_countWaysOn_20 rfl (lv_at hl 0 rfl) ?_
        refine lv_iload hx hb dX3_countWaysOn_21 (lv_at hl 5 rfl) ?_
        refine lv_iload_n hx hb dX3_countWaysOn_23 rfl (lv_at hl 1 rfl) ?_
        refine lv_iload_n hx hb dX3_countWaysOn_24 rfl (lv_at hl 2 rfl) ?_
        refine lv_iload_n hx hb dX3_countWaysOn_25 rfl (lv_at hl 3 rfl) ?_
        refine wr_calll (w := (fun (z : (Nat → Int64)) => (wX g asked values bytes starts ends length parts texts lengths feet sorts nxt (nI (nv)) sums oneSums otherSums byFeet z over rcount rcust ssums ways nextWays reached nextReached found least greatest))) (va_runV (As := [.int (nI (i)), .int (nI (behind)), .int (nI (ft)), .int (nI (rest))]) (rest := [.long (lN (lsq feet sorts nxt ow (lwy feet sorts nxt ow nv) ft behind rest i))]) ⟨hx, hb, hml, hown, hts⟩ (c_X3_waysWith l (g := g) (asked := asked) (values := values) (bytes := bytes) (starts := starts) (ends := ends) (length := length) (parts := parts) (texts := texts) (lengths := lengths) (feet := feet) (sorts := sorts) (nxt := nxt) (nv := nv) (sums := sums) (oneSums := oneSums) (otherSums := otherSums) (byFeet := byFeet) (kept := kp) (over := over) (rcount := rcount) (rcust := rcust) (ssums := ssums) (ways := ways) (nextWays := nextWays) (reached := reached) (nextReached := nextReached) (found := found) (least := least) (greatest := greatest) (sz := _) (i) (behind) (ft) (rest) (by omega) hbe hft hre ow hnv hfe hso hsu hkq IH hd) (cwV 4 hts gX3_countWaysOn_X3_waysWith rfl rfl rfl (by decide +kernel) ⟨show 3 * ft + 1 + 1 ≤ 3 * ft + 2 by omega, show 8 + (7 + 11) + (90 * ft + 30) ≤ 90 * ft + 60 by omega⟩) (pre_V qW_bl (va_recv hK hP (ci := 3) (q0 := 13) rfl rfl) (fun U hU hW => ⟨by rw [hU], pW_of hP hK hN hU hW⟩)) rfl rfl hl.1 rfl (lv_room (Nat.le_of_ble_eq_true rfl)) dX3_countWaysOn_26 ⟨Nat.zero_le _, Nat.zero_le _⟩) hS (fun r26 kept26 H locs hp26 hP hS => ?_)
        have hP : va_P g.1 vwCl (wX g asked values bytes starts ends length parts texts lengths feet sorts nxt (nI (nv)) sums oneSums otherSums byFeet kept26 over rcount rcust ssums ways nextWays reached nextReached found least greatest) H := hP
        refine ln_tol (y := (lN (lst feet sorts nxt ow (lwy feet sorts nxt ow nv) ft behind rest i))) (hp26.1) ?_
        refine ln_ladd hx hb dX3_countWaysOn_29 ?_
        refine lv_lstore (lv' := [(4, .long (lN ((lsq feet sorts nxt ow (lwy feet sorts nxt ow nv) ft behind rest i) + (lst feet sorts nxt ow (lwy feet sorts nxt ow nv) ft behind rest i)))), (0, .ref (g.2.2 13)), (1, .int (nI (behind))), (2, .int (nI (ft))), (3, .int (nI (rest))), (6, .int (nI (i)))]) hx hb dX3_countWaysOn_30 hl (by decide) rfl (fun ls hl => ?_)
        refine lv_iinc (v := (nI (i + 1))) (lv' := [(6, .int (nI (i + 1))), (4, .long (lN ((lsq feet sorts nxt ow (lwy feet sorts nxt ow nv) ft behind rest i) + (lst feet sorts nxt ow (lwy feet sorts nxt ow nv) ft behind rest i)))), (0, .ref (g.2.2 13)), (1, .int (nI (behind))), (2, .int (nI (ft))), (3, .int (nI (rest)))]) hx hb dX3_countWaysOn_32 hl (k := 5) rfl (nI_add _ 1) (by decide) rfl (fun ls hl => ?_)
        refine lv_goto (tgt := 6) hx hb dX3_countWaysOn_35 (by decide) ?_
        exact ih_6 (i + 1) kept26 (by omega) (hp26.2) (by omega) _ _ hP hS ls (lv_sub hl [2, 3, 4, 5, 1, 0] rfl)
  exact lp_6 (nv - (0) + 1) 0 kept (Nat.zero_le _) (hkp) (Nat.lt_succ_self _) _ _ hP hS ls (lv_sub hl [2, 3, 4, 5, 1, 0] rfl)
theorem iw_X3_waysOn_X3 : ∀ w ∈ u_ws RX3 TX3 10, w ∈ wsX3_waysOn := by decide +kernel
theorem fl_X3_waysOn_25 : Cond.fieldLink RX3 25 (TX3 6).1 (TX3 6).2.1 (TX3 6).2.2.1 ∈ wsX3_waysOn := by decide +kernel
set_option maxHeartbeats 200000 in
set_option maxRecDepth 100000 in
theorem c_X3_waysOn_s (l : Launch) {g : GW} {asked : Int64} {values : Nat → Int32} {bytes : Nat → Int32} {starts : Nat → Int32} {ends : Nat → Int32} {length : Int32} {parts : Int32} {texts : Nat → Int32} {lengths : Nat → Int32} {feet : Nat → Int32} {sorts : Nat → Int32} {nxt : Nat → Int32} {nv : Nat} {sums : Nat → Int32} {oneSums : Nat → Int32} {otherSums : Nat → Int32} {byFeet : Nat → Int64} {kept : Nat → Int64} {over : Int32} {rcount : Int32} {rcust : Int32} {ssums : Nat → Int32} {ways : Nat → Int64} {nextWays : Nat → Int64} {reached : Nat → Int64} {nextReached : Nat → Int64} {found : Int32} {least : Int32} {greatest : Int32} {sz : Nat} (behind : Nat) (ft : Nat) (rest : Nat) (hbe : behind < 4) (hft : ft ≤ 8) (hre : rest ≤ 3000) (ow : Nat → Nat) (hnv : nv ≤ 10) (hfe : okV feet nv 1 3) (hso : okV sorts nv 0 2) (hsu : ∀ v, v < nv → sums v = nI (ow v) ∧ ow v ≤ 8000) (hkp : keptOK kept (lwy feet sorts nxt ow nv)) (IH : ∀ f2, f2 < ft → KW l g asked values bytes starts ends length parts texts lengths feet sorts nxt sums oneSums otherSums byFeet over rcount rcust ssums ways nextWays reached nextReached found least greatest nv ow f2) (hd : dW 25 g.2.2) : Met l yX3_waysOn wsX3_waysOn ({ frames := 3 * ft + 3, cells := 0, slots := 0, locals := 90 * ft + 90 }) (va_Pc ([.ref (g.2.2 13), .int (nI (behind)), .int (nI (ft)), .int (nI (rest))]) (qW g (wX g asked values bytes starts ends length parts texts lengths feet sorts nxt (nI (nv)) sums oneSums otherSums byFeet kept over rcount rcust ssums ways nextWays reached nextReached found least greatest) sz)) (va_Ql (fun (r : Int64) (z : (Nat → Int64)) => r = lN (lwy feet sorts nxt ow nv ft behind rest) ∧ keptOK z (lwy feet sorts nxt ow nv)) (fun (z : (Nat → Int64)) (t : State) => va_P g.1 vwCl (wX g asked values bytes starts ends length parts texts lengths feet sorts nxt (nI (nv)) sums oneSums otherSums byFeet z over rcount rcust ssums ways nextWays reached nextReached found least greatest) t.heap) (aW 25 g.2.2 sz)) 0 0 (aW 25 g.2.2 sz) := by
  refine Met.ofW (cc := cX3_waysOn) (maxL := 10) (ret := (some .long)) (by decide) rfl ?_
  intro p e s m args below meth c s₁ B hml hv
  obtain ⟨rfl, hsz9, hP, hK, hN⟩ := hv
  subst hsz9
  have hx := B.exec
  have hb := B.bytes
  have hr := B.returns
  have hts := atoms_spec (ws := wsX3_waysOn) B.pre
  have hown : s.vm.findClass RX3 = some m.cls := findClass_of_methodNamed B.named
  have hlocks := B.notSynchronized
  have hS : va_S (aW 25 g.2.2 s.heap.size) s.heap s.heap [] := va_S.rf
  have hl := lv_entry ([.ref (g.2.2 13), .int (nI (behind)), .int (nI (ft)), .int (nI (rest))]) (n := 10) (Nat.le_of_ble_eq_true rfl)
  rw [lg_entry_eq]
  generalize (lg_sl ([.ref (g.2.2 13), .int (nI (behind)), .int (nI (ft)), .int (nI (rest))]) ++ List.replicate (10 - (lg_sl ([.ref (g.2.2 13), .int (nI (behind)), .int (nI (ft)), .int (nI (rest))])).length) Slot.unset).toArray = ls at hl ⊢
  have hl : lv_has ls 10 [(0, .ref (g.2.2 13)), (1, .int (nI (behind))), (2, .int (nI (ft))), (3, .int (nI (rest)))] := hl
  refine lv_iload_n hx hb dX3_waysOn_0 rfl (lv_at hl 2 rfl) ?_
  refine lv_iconst (v := (nI (1))) hx hb dX3_waysOn_1 (by decide) ?_
  refine lv_icmp_lt (tgt := 11) hx hb dX3_waysOn_2 (by decide) (fun c_2 => ?_) (fun c_2 => ?_)
  · have c_2 := (cv_lt_nn (by omega) (by omega)).mp c_2
    refine lv_iload_n hx hb dX3_waysOn_11 rfl (lv_at hl 2 rfl) ?_
    refine lv_if_ne (tgt := 23) hx hb dX3_waysOn_12 (by decide) (fun c_12 => ?_) (fun c_12 => ?_)
    · have c_12 := (not_congr (cz_eq_n (by omega))).mp c_12
      have h23 : ft = 0 := by omega
      refine lv_lconst (v := (lN (0))) hx hb dX3_waysOn_23 (by decide) ?_
      exact wr_lret (kept) hx hb hr hlocks (⟨by rw [show ft = 0 by omega, lwy_0, if_neg (by omega)], hkp⟩) (fun t ht => show va_P g.1 vwCl (wX g asked values bytes starts ends length parts texts lengths feet sorts nxt (nI (nv)) sums oneSums otherSums byFeet kept over rcount rcust ssums ways nextWays reached nextReached found least greatest) t.heap by rw [ht]; exact hP) hS dX3_waysOn_24
    · have c_12 := (cz_eq_n (by omega)).mp c_12
      refine lv_iload_n hx hb dX3_waysOn_15 rfl (lv_at hl 3 rfl) ?_
      refine lv_if_ne (tgt := 23) hx hb dX3_waysOn_16 (by decide) (fun c_16 => ?_) (fun c_16 => ?_)
      · have c_16 := (not_congr (cz_eq_n (by omega))).mp c_16
        have h23 : ft = 0 := by omega
        refine lv_lconst (v := (lN (0))) hx hb dX3_waysOn_23 (by decide) ?_
        exact wr_lret (kept) hx hb hr hlocks (⟨by rw [show ft = 0 by omega, lwy_0, if_neg (by omega)], hkp⟩) (fun t ht => show va_P g.1 vwCl (wX g asked values bytes starts ends length parts texts lengths feet sorts nxt (nI (nv)) sums oneSums otherSums byFeet kept over rcount rcust ssums ways nextWays reached nextReached found least greatest) t.heap by rw [ht]; exact hP) hS dX3_waysOn_24
      · have c_16 := (cz_eq_n (by omega)).mp c_16
        refine lv_lconst (v := (lN (1))) hx hb dX3_waysOn_19 (by decide) ?_
        refine lv_goto (tgt := 24) hx hb dX3_waysOn_20 (by decide) ?_
        exact wr_lret (kept) hx hb hr hlocks (⟨by rw [show ft = 0 by omega, lwy_0, if_pos (by omega)], hkp⟩) (fun t ht => show va_P g.1 vwCl (wX g asked values bytes starts ends length parts texts lengths feet sorts nxt (nI (nv)) sums oneSums otherSums byFeet kept over rcount rcust ssums ways nextWays reached nextReached found least greatest) t.heap by rw [ht]; exact hP) hS dX3_waysOn_24
  · have c_2 := (not_congr (cv_lt_nn (by omega) (by omega))).mp c_2
    refine lv_iload_n hx hb dX3_waysOn_5 rfl (lv_at hl 2 rfl) ?_
    refine lv_bipush (v := (nI (8))) hx hb dX3_waysOn_6 (by decide) ?_
    refine lv_icmp_le (tgt := 25) hx hb dX3_waysOn_8 (by decide) (fun c_8 => ?_) (fun c_8 => ?_)
    · have c_8 := (cv_le_nn (by omega) (by omega)).mp c_8
      by_cases hpk : behind < 3 ∧ ft ≤ 4
      · refine lv_iload_n hx hb dX3_waysOn_25 rfl (lv_at hl 1 rfl) ?_
        refine lv_iload_n hx hb dX3_waysOn_26 rfl (lv_at hl 2 rfl) ?_
        refine lv_iload_n hx hb dX3_waysOn_27 rfl (lv_at hl 3 rfl) ?_
        refine ro_call (va_runS (As := [.int (nI (behind)), .int (nI (ft)), .int (nI (rest))]) (rest := []) ⟨hx, hb, hml, hown, hts⟩ (c_X3_placeKept l (behind) (ft) (rest) hbe (by omega) hre) (va_cwS 3 hts gX3_waysOn_X3_placeKept rfl rfl rfl (by decide +kernel) ⟨show 0 + 1 ≤ 3 * ft + 3 by omega, show 8 + (3 + 11) + 0 ≤ 90 * ft + 90 by omega⟩) pre_0 rfl rfl hl.1 rfl (lv_room (Nat.le_of_ble_eq_true rfl)) dX3_waysOn_28 ⟨Nat.zero_le _, Nat.zero_le _⟩) ?_
        refine ln_toi (y := (nI (behind * 3001 + rest))) (if_pos hpk) ?_
        refine lv_istore (lv' := [(4, .int (nI (behind * 3001 + rest))), (0, .ref (g.2.2 13)), (1, .int (nI (behind))), (2, .int (nI (ft))), (3, .int (nI (rest)))]) hx hb dX3_waysOn_31 hl (by decide) rfl (fun ls hl => ?_)
        refine lv_iload hx hb dX3_waysOn_33 (lv_at hl 0 rfl) ?_
        refine lv_if_lt (tgt := 48) hx hb dX3_waysOn_35 (by decide) (fun c_35 => ?_) (fun c_35 => ?_)
        · have c_35 := (cz_lt_n (by omega)).mp c_35
          exact absurd c_35 (by omega)
        · have c_35 := (not_congr (cz_lt_n (by omega))).mp c_35
          refine lv_iload hx hb dX3_waysOn_38 (lv_at hl 0 rfl) ?_
          refine lv_aload_n hx hb dX3_waysOn_40 rfl (lv_at hl 1 rfl) ?_
          refine an_get (ci := 3) (v := .ref (g.2.2 18)) (C := RX3) (T := TX3) (N := 10) hx hb hts iw_X3_waysOn_X3 hown hK hP 13 rfl rfl 6 (by decide) (hts _ fl_X3_waysOn_25) rfl dX3_waysOn_41 ?_
          refine va_alen (v := nI 9003) hx hb hK hP 18 1 rfl rfl rfl dX3_waysOn_44 ?_
          refine lv_icmp_lt (tgt := 56) hx hb dX3_waysOn_45 (by decide) (fun c_45 => ?_) (fun c_45 => ?_)
          · have c_45 := (cv_lt_nn (by omega) (by omega)).mp c_45
            refine lv_iload_n hx hb dX3_waysOn_56 rfl (lv_at hl 3 rfl) ?_
            refine lv_iconst (v := (nI (1))) hx hb dX3_waysOn_57 (by decide) ?_
            refine ln_isub hx hb (by omega) dX3_waysOn_58 ?_
            refine lv_bipush (v := (nI (16))) hx hb dX3_waysOn_59 (by decide) ?_
            refine ln_imul hx hb dX3_waysOn_61 ?_
            refine lv_istore (lv' := [(5, .int (nI ((ft - 1) * 16))), (4, .int (nI (behind * 3001 + rest))), (0, .ref (g.2.2 13)), (1, .int (nI (behind))), (2, .int (nI (ft))), (3, .int (nI (rest)))]) hx hb dX3_waysOn_62 hl (by decide) rfl (fun ls hl => ?_)
            refine lv_aload_n hx hb dX3_waysOn_64 rfl (lv_at hl 2 rfl) ?_
            refine an_get (ci := 3) (v := .ref (g.2.2 18)) (C := RX3) (T := TX3) (N := 10) hx hb hts iw_X3_waysOn_X3 hown hK hP 13 rfl rfl 6 (by decide) (hts _ fl_X3_waysOn_25) rfl dX3_waysOn_65 ?_
            refine lv_iload hx hb dX3_waysOn_68 (lv_at hl 1 rfl) ?_
            refine an_lald (f := kept) hx hb hK hP 18 1 rfl rfl (by decide) (by omega) dX3_waysOn_70 ?_
            refine lv_iload hx hb dX3_waysOn_71 (lv_at hl 0 rfl) ?_
            refine lv_lushr hx hb dX3_waysOn_73 rfl ?_
            refine lv_ldc2 hx hb hown (hts (.constantLong RX3 91 (65535)) (by decide +kernel)) dX3_waysOn_74 ?_
            refine ln_tol (y := lN 65535) (by decide) ?_
            refine lv_land hx hb dX3_waysOn_77 ?_
            refine ln_tol (y := (lN (lane (kept (behind * 3001 + rest)) ft))) (lane_x _ (by omega) (by omega)) ?_
            refine lv_lstore (lv' := [(6, .long (lN (lane (kept (behind * 3001 + rest)) ft))), (5, .int (nI ((ft - 1) * 16))), (4, .int (nI (behind * 3001 + rest))), (0, .ref (g.2.2 13)), (1, .int (nI (behind))), (2, .int (nI (ft))), (3, .int (nI (rest)))]) hx hb dX3_waysOn_78 hl (by decide) rfl (fun ls hl => ?_)
            refine lv_lload hx hb dX3_waysOn_80 (lv_at hl 0 rfl) ?_
            refine lv_lconst (v := (lN (0))) hx hb dX3_waysOn_82 (by decide) ?_
            refine W.lcmp hx hb dX3_waysOn_83 ?_
            refine lv_if_le (tgt := 92) hx hb dX3_waysOn_84 (by decide) (fun c_84 => ?_) (fun c_84 => ?_)
            · have c_84 := (cx_le (by first | exact lane_lt _ _ | decide) (by first | exact lane_lt _ _ | decide)).1 c_84
              refine lv_aload_n hx hb dX3_waysOn_92 rfl (lv_at hl 3 rfl) ?_
              refine lv_iload_n hx hb dX3_waysOn_93 rfl (lv_at hl 4 rfl) ?_
              refine lv_iload_n hx hb dX3_waysOn_94 rfl (lv_at hl 5 rfl) ?_
              refine lv_iload_n hx hb dX3_waysOn_95 rfl (lv_at hl 6 rfl) ?_
              refine wr_calll (w := (fun (z : (Nat → Int64)) => (wX g asked values bytes starts ends length parts texts lengths feet sorts nxt (nI (nv)) sums oneSums otherSums byFeet z over rcount rcust ssums ways nextWays reached nextReached found least greatest))) (va_runV (As := [.int (nI (behind)), .int (nI (ft)), .int (nI (rest))]) (rest := []) ⟨hx, hb, hml, hown, hts⟩ (c_X3_countWaysOn l (g := g) (asked := asked) (values := values) (bytes := bytes) (starts := starts) (ends := ends) (length := length) (parts := parts) (texts := texts) (lengths := lengths) (feet := feet) (sorts := sorts) (nxt := nxt) (nv := nv) (sums := sums) (oneSums := oneSums) (otherSums := otherSums) (byFeet := byFeet) (kept := kept) (over := over) (rcount := rcount) (rcust := rcust) (ssums := ssums) (ways := ways) (nextWays := nextWays) (reached := reached) (nextReached := nextReached) (found := found) (least := least) (greatest := greatest) (sz := _) (behind) (ft) (rest) hbe (by omega) hft hre ow hnv hfe hso hsu hkp IH hd) (cwV 3 hts gX3_waysOn_X3_countWaysOn rfl rfl rfl (by decide +kernel) ⟨show 3 * ft + 2 + 1 ≤ 3 * ft + 3 by omega, show 8 + (7 + 11) + (90 * ft + 60) ≤ 90 * ft + 90 by omega⟩) (pre_V qW_bl (va_recv hK hP (ci := 3) (q0 := 13) rfl rfl) (fun U hU hW => ⟨by rw [hU], pW_of hP hK hN hU hW⟩)) rfl rfl hl.1 rfl (lv_room (Nat.le_of_ble_eq_true rfl)) dX3_waysOn_96 ⟨Nat.zero_le _, Nat.zero_le _⟩) hS (fun r96 kept96 H locs hp96 hP hS => ?_)
              have hP : va_P g.1 vwCl (wX g asked values bytes starts ends length parts texts lengths feet sorts nxt (nI (nv)) sums oneSums otherSums byFeet kept96 over rcount rcust ssums ways nextWays reached nextReached found least greatest) H := hP
              refine ln_tol (y := (lN (lwy feet sorts nxt ow nv ft behind rest))) (hp96.1) ?_
              refine lv_lstore (lv' := [(8, .long (lN (lwy feet sorts nxt ow nv ft behind rest))), (6, .long (lN (lane (kept (behind * 3001 + rest)) ft))), (5, .int (nI ((ft - 1) * 16))), (4, .int (nI (behind * 3001 + rest))), (0, .ref (g.2.2 13)), (1, .int (nI (behind))), (2, .int (nI (ft))), (3, .int (nI (rest)))]) hx hb dX3_waysOn_99 hl (by decide) rfl (fun ls hl => ?_)
              refine lv_aload_n hx hb dX3_waysOn_101 rfl (lv_at hl 4 rfl) ?_
              refine an_get (ci := 3) (v := .ref (g.2.2 18)) (C := RX3) (T := TX3) (N := 10) hx hb hts iw_X3_waysOn_X3 hown hK hP 13 rfl rfl 6 (by decide) (hts _ fl_X3_waysOn_25) rfl dX3_waysOn_102 ?_
              refine lv_iload hx hb dX3_waysOn_105 (lv_at hl 3 rfl) ?_
              refine lv_dup2_11 hx hb dX3_waysOn_107 rfl rfl ?_
              refine an_lald (f := kept96) hx hb hK hP 18 1 rfl rfl (by decide) (by omega) dX3_waysOn_108 ?_
              refine lv_lload hx hb dX3_waysOn_109 (lv_at hl 0 rfl) ?_
              refine lv_lconst (v := (lN (1))) hx hb dX3_waysOn_111 (by decide) ?_
              refine ln_ladd hx hb dX3_waysOn_112 ?_
              refine lv_iload hx hb dX3_waysOn_113 (lv_at hl 2 rfl) ?_
              refine lv_lshl hx hb dX3_waysOn_115 rfl ?_
              refine lv_lor hx hb dX3_waysOn_116 ?_
              refine an_last (f := kept96) (ws' := (wX g asked values bytes starts ends length parts texts lengths feet sorts nxt (nI (nv)) sums oneSums otherSums byFeet (vp_updL (kept96) (behind * 3001 + rest) ((kept96 (behind * 3001 + rest)) ||| ((lN ((lwy feet sorts nxt ow nv ft behind rest) + 1)) <<< ((nI ((ft - 1) * 16)).toInt64 &&& 63)))) over rcount rcust ssums ways nextWays reached nextReached found least greatest)) hx hb hK hP (wX_D hd) hS 18 1 rfl rfl (by decide) (by omega) rfl dX3_waysOn_117 (fun H locs hP hS => ?_)
              refine lv_lload hx hb dX3_waysOn_118 (lv_at hl 0 rfl) ?_
              exact wr_lret (vp_updL (kept96) (behind * 3001 + rest) ((kept96 (behind * 3001 + rest)) ||| ((lN ((lwy feet sorts nxt ow nv ft behind rest) + 1)) <<< ((nI ((ft - 1) * 16)).toInt64 &&& 63)))) hx hb hr hlocks (⟨rfl, kept_put hp96.2 (by omega) hre (by omega) (by omega) (lwy_4 hnv hfe (by omega))⟩) (fun t ht => show va_P g.1 vwCl (wX g asked values bytes starts ends length parts texts lengths feet sorts nxt (nI (nv)) sums oneSums otherSums byFeet (vp_updL (kept96) (behind * 3001 + rest) ((kept96 (behind * 3001 + rest)) ||| ((lN ((lwy feet sorts nxt ow nv ft behind rest) + 1)) <<< ((nI ((ft - 1) * 16)).toInt64 &&& 63)))) over rcount rcust ssums ways nextWays reached nextReached found least greatest) t.heap by rw [ht]; exact hP) hS dX3_waysOn_120
            · have c_84 := (cx_le (by first | exact lane_lt _ _ | decide) (by first | exact lane_lt _ _ | decide)).2 c_84
              refine lv_lload hx hb dX3_waysOn_87 (lv_at hl 0 rfl) ?_
              refine lv_lconst (v := (lN (1))) hx hb dX3_waysOn_89 (by decide) ?_
              refine ln_lsub hx hb (by omega) dX3_waysOn_90 ?_
              exact wr_lret (kept) hx hb hr hlocks (⟨by rcases hkp behind rest ft (by omega) hre (by omega) (by omega) with h | h; (exact absurd h (by omega)); rw [h, Nat.add_sub_cancel], hkp⟩) (fun t ht => show va_P g.1 vwCl (wX g asked values bytes starts ends length parts texts lengths feet sorts nxt (nI (nv)) sums oneSums otherSums byFeet kept over rcount rcust ssums ways nextWays reached nextReached found least greatest) t.heap by rw [ht]; exact hP) hS dX3_waysOn_91
          · have c_45 := (not_congr (cv_lt_nn (by omega) (by omega))).mp c_45
            exact absurd c_45 (by omega)
      · refine lv_iload_n hx hb dX3_waysOn_25 rfl (lv_at hl 1 rfl) ?_
        refine lv_iload_n hx hb dX3_waysOn_26 rfl (lv_at hl 2 rfl) ?_
        refine lv_iload_n hx hb dX3_waysOn_27 rfl (lv_at hl 3 rfl) ?_
        refine ro_call (va_runS (As := [.int (nI (behind)), .int (nI (ft)), .int (nI (rest))]) (rest := []) ⟨hx, hb, hml, hown, hts⟩ (c_X3_placeKept l (behind) (ft) (rest) hbe (by omega) hre) (va_cwS 3 hts gX3_waysOn_X3_placeKept rfl rfl rfl (by decide +kernel) ⟨show 0 + 1 ≤ 3 * ft + 3 by omega, show 8 + (3 + 11) + 0 ≤ 90 * ft + 90 by omega⟩) pre_0 rfl rfl hl.1 rfl (lv_room (Nat.le_of_ble_eq_true rfl)) dX3_waysOn_28 ⟨Nat.zero_le _, Nat.zero_le _⟩) ?_
        refine ln_toi (y := ((-1 : Int32))) (if_neg hpk) ?_
        refine lv_istore (lv' := [(4, .int ((-1 : Int32))), (0, .ref (g.2.2 13)), (1, .int (nI (behind))), (2, .int (nI (ft))), (3, .int (nI (rest)))]) hx hb dX3_waysOn_31 hl (by decide) rfl (fun ls hl => ?_)
        refine lv_iload hx hb dX3_waysOn_33 (lv_at hl 0 rfl) ?_
        refine lv_if_lt (tgt := 48) hx hb dX3_waysOn_35 (by decide) (fun c_35 => ?_) (fun c_35 => ?_)
        · have c_35 := (cz_lt_i).mp c_35
          refine lv_aload_n hx hb dX3_waysOn_48 rfl (lv_at hl 1 rfl) ?_
          refine lv_iload_n hx hb dX3_waysOn_49 rfl (lv_at hl 2 rfl) ?_
          refine lv_iload_n hx hb dX3_waysOn_50 rfl (lv_at hl 3 rfl) ?_
          refine lv_iload_n hx hb dX3_waysOn_51 rfl (lv_at hl 4 rfl) ?_
          refine wr_calll (w := (fun (z : (Nat → Int64)) => (wX g asked values bytes starts ends length parts texts lengths feet sorts nxt (nI (nv)) sums oneSums otherSums byFeet z over rcount rcust ssums ways nextWays reached nextReached found least greatest))) (va_runV (As := [.int (nI (behind)), .int (nI (ft)), .int (nI (rest))]) (rest := []) ⟨hx, hb, hml, hown, hts⟩ (c_X3_countWaysOn l (g := g) (asked := asked) (values := values) (bytes := bytes) (starts := starts) (ends := ends) (length := length) (parts := parts) (texts := texts) (lengths := lengths) (feet := feet) (sorts := sorts) (nxt := nxt) (nv := nv) (sums := sums) (oneSums := oneSums) (otherSums := otherSums) (byFeet := byFeet) (kept := kept) (over := over) (rcount := rcount) (rcust := rcust) (ssums := ssums) (ways := ways) (nextWays := nextWays) (reached := reached) (nextReached := nextReached) (found := found) (least := least) (greatest := greatest) (sz := _) (behind) (ft) (rest) hbe (by omega) hft hre ow hnv hfe hso hsu hkp IH hd) (cwV 3 hts gX3_waysOn_X3_countWaysOn rfl rfl rfl (by decide +kernel) ⟨show 3 * ft + 2 + 1 ≤ 3 * ft + 3 by omega, show 8 + (7 + 11) + (90 * ft + 60) ≤ 90 * ft + 90 by omega⟩) (pre_V qW_bl (va_recv hK hP (ci := 3) (q0 := 13) rfl rfl) (fun U hU hW => ⟨by rw [hU], pW_of hP hK hN hU hW⟩)) rfl rfl hl.1 rfl (lv_room (Nat.le_of_ble_eq_true rfl)) dX3_waysOn_52 ⟨Nat.zero_le _, Nat.zero_le _⟩) hS (fun r52 kept52 H locs hp52 hP hS => ?_)
          have hP : va_P g.1 vwCl (wX g asked values bytes starts ends length parts texts lengths feet sorts nxt (nI (nv)) sums oneSums otherSums byFeet kept52 over rcount rcust ssums ways nextWays reached nextReached found least greatest) H := hP
          exact wr_lret (kept52) hx hb hr hlocks (hp52) (fun t ht => show va_P g.1 vwCl (wX g asked values bytes starts ends length parts texts lengths feet sorts nxt (nI (nv)) sums oneSums otherSums byFeet kept52 over rcount rcust ssums ways nextWays reached nextReached found least greatest) t.heap by rw [ht]; exact hP) hS dX3_waysOn_55
        · have c_35 := (not_congr (cz_lt_i)).mp c_35
          exact absurd m1_toInt (by omega)
    · have c_8 := (not_congr (cv_le_nn (by omega) (by omega))).mp c_8
      refine lv_iload_n hx hb dX3_waysOn_11 rfl (lv_at hl 2 rfl) ?_
      refine lv_if_ne (tgt := 23) hx hb dX3_waysOn_12 (by decide) (fun c_12 => ?_) (fun c_12 => ?_)
      · have c_12 := (not_congr (cz_eq_n (by omega))).mp c_12
        have h23 : ft = 0 := by omega
        refine lv_lconst (v := (lN (0))) hx hb dX3_waysOn_23 (by decide) ?_
        exact wr_lret (kept) hx hb hr hlocks (⟨by rw [show ft = 0 by omega, lwy_0, if_neg (by omega)], hkp⟩) (fun t ht => show va_P g.1 vwCl (wX g asked values bytes starts ends length parts texts lengths feet sorts nxt (nI (nv)) sums oneSums otherSums byFeet kept over rcount rcust ssums ways nextWays reached nextReached found least greatest) t.heap by rw [ht]; exact hP) hS dX3_waysOn_24
      · have c_12 := (cz_eq_n (by omega)).mp c_12
        refine lv_iload_n hx hb dX3_waysOn_15 rfl (lv_at hl 3 rfl) ?_
        refine lv_if_ne (tgt := 23) hx hb dX3_waysOn_16 (by decide) (fun c_16 => ?_) (fun c_16 => ?_)
        · have c_16 := (not_congr (cz_eq_n (by omega))).mp c_16
          have h23 : ft = 0 := by omega
          refine lv_lconst (v := (lN (0))) hx hb dX3_waysOn_23 (by decide) ?_
          exact wr_lret (kept) hx hb hr hlocks (⟨by rw [show ft = 0 by omega, lwy_0, if_neg (by omega)], hkp⟩) (fun t ht => show va_P g.1 vwCl (wX g asked values bytes starts ends length parts texts lengths feet sorts nxt (nI (nv)) sums oneSums otherSums byFeet kept over rcount rcust ssums ways nextWays reached nextReached found least greatest) t.heap by rw [ht]; exact hP) hS dX3_waysOn_24
        · have c_16 := (cz_eq_n (by omega)).mp c_16
          refine lv_lconst (v := (lN (1))) hx hb dX3_waysOn_19 (by decide) ?_
          refine lv_goto (tgt := 24) hx hb dX3_waysOn_20 (by decide) ?_
          exact wr_lret (kept) hx hb hr hlocks (⟨by rw [show ft = 0 by omega, lwy_0, if_pos (by omega)], hkp⟩) (fun t ht => show va_P g.1 vwCl (wX g asked values bytes starts ends length parts texts lengths feet sorts nxt (nI (nv)) sums oneSums otherSums byFeet kept over rcount rcust ssums ways nextWays reached nextReached found least greatest) t.heap by rw [ht]; exact hP) hS dX3_waysOn_24
theorem kw_all (l : Launch) {g : GW} {asked : Int64} {values : Nat → Int32} {bytes : Nat → Int32} {starts : Nat → Int32} {ends : Nat → Int32} {length : Int32} {parts : Int32} {texts : Nat → Int32} {lengths : Nat → Int32} {feet : Nat → Int32} {sorts : Nat → Int32} {nxt : Nat → Int32} {sums : Nat → Int32} {oneSums : Nat → Int32} {otherSums : Nat → Int32} {byFeet : Nat → Int64} {over : Int32} {rcount : Int32} {rcust : Int32} {ssums : Nat → Int32} {ways : Nat → Int64} {nextWays : Nat → Int64} {reached : Nat → Int64} {nextReached : Nat → Int64} {found : Int32} {least : Int32} {greatest : Int32} {nv : Nat} (ow : Nat → Nat) (hnv : nv ≤ 10) (hfe : okV feet nv 1 3) (hso : okV sorts nv 0 2) (hsu : ∀ v, v < nv → sums v = nI (ow v) ∧ ow v ≤ 8000) (hd : dW 25 g.2.2) : ∀ n ft, ft < n → ft ≤ 8 → KW l g asked values bytes starts ends length parts texts lengths feet sorts nxt sums oneSums otherSums byFeet over rcount rcust ssums ways nextWays reached nextReached found least greatest nv ow ft
  | 0, ft, h, _ => absurd h (Nat.not_lt_zero ft)
  | n + 1, ft, h, h8 => fun behind rest kept sz h1 h2 h3 => c_X3_waysOn_s l behind ft rest h1 h8 h2 ow hnv hfe hso hsu h3 (fun f2 hf2 => kw_all l ow hnv hfe hso hsu hd n f2 (by omega) (by omega)) hd
