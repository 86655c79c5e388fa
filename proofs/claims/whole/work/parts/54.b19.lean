theorem iw_X2_reachWith_X2 : ∀ w ∈ u_ws RX2 TX2 11, w ∈ wsX2_reachWith := by decide +kernel
theorem iw_X2_reachWith_X4 : ∀ w ∈ u_ws RX4 TX4 6, w ∈ wsX2_reachWith := by decide +kernel
theorem fl_X2_reachWith_11 : Cond.fieldLink RX2 11 (TX2 3).1 (TX2 3).2.1 (TX2 3).2.2.1 ∈ wsX2_reachWith := by decide +kernel
theorem fl_X2_reachWith_32 : Cond.fieldLink RX2 32 (TX2 1).1 (TX2 1).2.1 (TX2 1).2.2.1 ∈ wsX2_reachWith := by decide +kernel
theorem fl_X2_reachWith_73 : Cond.fieldLink RX2 73 (TX4 3).1 (TX4 3).2.1 (TX4 3).2.2.1 ∈ wsX2_reachWith := by decide +kernel
set_option maxHeartbeats 200000 in
set_option maxRecDepth 100000 in
theorem c_X2_reachWith (l : Launch) {g : GW} {asked : Int64} {values : Nat → Int32} {bytes : Nat → Int32} {starts : Nat → Int32} {ends : Nat → Int32} {length : Int32} {parts : Int32} {texts : Nat → Int32} {lengths : Nat → Int32} {feet : Nat → Int32} {sorts : Nat → Int32} {nxt : Nat → Int32} {size : Int32} {sums : Nat → Int32} {oneSums : Nat → Int32} {otherSums : Nat → Int32} {byFeet : Nat → Int64} {kept : Nat → Int64} {over : Int32} {rcount : Int32} {rcust : Int32} {ssums : Nat → Int32} {ways : Nat → Int64} {nextWays : Nat → Int64} {reached : Nat → Int64} {nextReached : Nat → Int64} {found : Int32} {least : Int32} {greatest : Int32} {sz : Nat} (vocable : Nat) (b2 : Nat) (hv : vocable < 10) (hsu : ssums vocable = nI b2) (hb2 : b2 ≤ 8000) (hs9 : sorts vocable = nI (tn (sorts vocable)) ∧ tn (sorts vocable) ≤ 2) (hd : dW 25 g.2.2) : Met l yX2_reachWith wsX2_reachWith ({ frames := 1, cells := 0, slots := 0, locals := 29 }) (va_Pc ([.ref (g.2.2 19), .int (nI (vocable))]) (qW g (wX g asked values bytes starts ends length parts texts lengths feet sorts nxt size sums oneSums otherSums byFeet kept over rcount rcust ssums ways nextWays reached nextReached found least greatest) sz)) (va_Qv (fun (z : (Nat → Int64)) => z = rwf nextReached reached sorts nxt b2 vocable 4) (fun (z : (Nat → Int64)) (t : State) => va_P g.1 vwCl (wX g asked values bytes starts ends length parts texts lengths feet sorts nxt size sums oneSums otherSums byFeet kept over rcount rcust ssums ways nextWays reached z found least greatest) t.heap) (aW 25 g.2.2 sz)) 0 0 (aW 25 g.2.2 sz) := by
  refine Met.ofW (cc := cX2_reachWith) (maxL := 3) (ret := none) (by decide) rfl ?_
  intro p e s m args below meth c s₁ B hml hv
  obtain ⟨rfl, hsz9, hP, hK, hN⟩ := hv
  subst hsz9
  have hx := B.exec
  have hb := B.bytes
  have hr := B.returns
  have hts := atoms_spec (ws := wsX2_reachWith) B.pre
  have hown : s.vm.findClass RX2 = some m.cls := findClass_of_methodNamed B.named
  have hlocks := B.notSynchronized
  have hS : va_S (aW 25 g.2.2 s.heap.size) s.heap s.heap [] := va_S.rf
  have hl := lv_entry ([.ref (g.2.2 19), .int (nI (vocable))]) (n := 3) (Nat.le_of_ble_eq_true rfl)
  rw [lg_entry_eq]
  generalize (lg_sl ([.ref (g.2.2 19), .int (nI (vocable))]) ++ List.replicate (3 - (lg_sl ([.ref (g.2.2 19), .int (nI (vocable))])).length) Slot.unset).toArray = ls at hl ⊢
  have hl : lv_has ls 3 [(0, .ref (g.2.2 19)), (1, .int (nI (vocable)))] := hl
  refine lv_iconst (v := (nI (0))) hx hb dX2_reachWith_0 (by decide) ?_
  refine lv_istore_n (lv' := [(2, .int (nI (0))), (0, .ref (g.2.2 19)), (1, .int (nI (vocable)))]) hx hb dX2_reachWith_1 rfl hl (by decide) rfl (fun ls hl => ?_)
  have lp_2 : ∀ (n : Nat) (k : Nat), (k ≤ 4) → 4 - k < n → ∀ (H : Heap) (locs : List Loc), va_P g.1 vwCl (wX g asked values bytes starts ends length parts texts lengths feet sorts nxt size sums oneSums otherSums byFeet kept over rcount rcust ssums ways nextWays reached (rwf nextReached reached sorts nxt b2 vocable k) found least greatest) H → va_S (aW 25 g.2.2 s.heap.size) s.heap H locs → ∀ (ls : Array Slot), lv_has ls 3 [(0, .ref (g.2.2 19)), (1, .int (nI (vocable))), (2, .int (nI (k)))] → W p l e (headSpec wsX2_reachWith ({ frames := 1, cells := 0, slots := 0, locals := 29 })).room s m (([.ref (g.2.2 19), .int (nI (vocable))] : List Value).toArray) below meth c H locs 0 0 (MQ below (va_Qv (fun (z : (Nat → Int64)) => z = rwf nextReached reached sorts nxt b2 vocable 4) (fun (z : (Nat → Int64)) (t : State) => va_P g.1 vwCl (wX g asked values bytes starts ends length parts texts lengths feet sorts nxt size sums oneSums otherSums byFeet kept over rcount rcust ssums ways nextWays reached z found least greatest) t.heap) (aW 25 g.2.2 s.heap.size)) (([.ref (g.2.2 19), .int (nI (vocable))] : List Value).toArray) s 0 0 (aW 25 g.2.2 s.heap.size)) (F0 m 2 ls []) := by
    intro n
    induction n with
    | zero => intro k hk hm; exact absurd hm (Nat.not_lt_zero _)
    | succ n ih_2 =>
      intro k hk hm_2 H locs hP hS ls hl
      refine lv_iload_n hx hb dX2_reachWith_2 rfl (lv_at hl 2 rfl) ?_
      refine lv_iconst (v := (nI (4))) hx hb dX2_reachWith_3 (by decide) ?_
      refine lv_icmp_ge (tgt := 51) hx hb dX2_reachWith_4 (by decide) (fun c_4 => ?_) (fun c_4 => ?_)
      · have c_4 := (cv_le_nn (by omega) (by omega)).mp c_4
        exact wr_vret (rwf nextReached reached sorts nxt b2 vocable k) hx hb hr hlocks (by rw [show k = 4 by omega]) (fun t ht => show va_P g.1 vwCl (wX g asked values bytes starts ends length parts texts lengths feet sorts nxt size sums oneSums otherSums byFeet kept over rcount rcust ssums ways nextWays reached (rwf nextReached reached sorts nxt b2 vocable k) found least greatest) t.heap by rw [ht]; exact hP) hS dX2_reachWith_51
      · have c_4 := (not_congr (cv_le_nn (by omega) (by omega))).mp c_4
        refine lv_aload_n hx hb dX2_reachWith_7 rfl (lv_at hl 0 rfl) ?_
        refine an_get (ci := 2) (v := .ref (g.2.2 7)) (C := RX2) (T := TX2) (N := 11) hx hb hts iw_X2_reachWith_X2 hown hK hP 19 rfl rfl 1 (by decide) (hts _ fl_X2_reachWith_32) rfl dX2_reachWith_8 ?_
        refine lv_iload_n hx hb dX2_reachWith_11 rfl (lv_at hl 2 rfl) ?_
        refine lv_iload_n hx hb dX2_reachWith_12 rfl (lv_at hl 1 rfl) ?_
        refine ro_call (va_runV (As := [.int (nI (k)), .int (nI (vocable))]) (rest := []) ⟨hx, hb, hml, hown, hts⟩ (c_X4_mayCome l (g := g) (asked := asked) (values := values) (bytes := bytes) (starts := starts) (ends := ends) (length := length) (parts := parts) (texts := texts) (lengths := lengths) (feet := feet) (sorts := sorts) (nxt := nxt) (size := size) (sums := sums) (oneSums := oneSums) (otherSums := otherSums) (byFeet := byFeet) (kept := kept) (over := over) (rcount := rcount) (rcust := rcust) (ssums := ssums) (ways := ways) (nextWays := nextWays) (reached := reached) (nextReached := rwf nextReached reached sorts nxt b2 vocable k) (found := found) (least := least) (greatest := greatest) (k) (vocable) (by omega) hv) (cwV 2 hts gX2_reachWith_X4_mayCome rfl rfl rfl (by decide +kernel) ⟨Nat.le_of_ble_eq_true rfl, Nat.le_of_ble_eq_true rfl⟩) (pre_V pW_bl (va_recv hK hP (ci := 4) (q0 := 7) rfl rfl) (fun U hU hW => pW_of hP hK hN hU hW)) rfl rfl hl.1 rfl (lv_room (Nat.le_of_ble_eq_true rfl)) dX2_reachWith_13 ⟨Nat.zero_le _, Nat.zero_le _⟩) ?_
        refine lv_if_eq (tgt := 45) hx hb dX2_reachWith_16 (by decide) (fun c_16 => ?_) (fun c_16 => ?_)
        · have c_16 := if_n c_16
          refine lv_iinc (v := (nI (k + 1))) (lv' := [(2, .int (nI (k + 1))), (0, .ref (g.2.2 19)), (1, .int (nI (vocable)))]) hx hb dX2_reachWith_45 hl (k := 2) rfl (nI_add _ 1) (by decide) rfl (fun ls hl => ?_)
          refine lv_goto (tgt := 2) hx hb dX2_reachWith_48 (by decide) ?_
          rw [rwf_n c_16] at hP
          exact ih_2 (k + 1) (by omega) (by omega) _ _ hP hS ls (lv_sub hl [1, 2, 0] rfl)
        · have c_16 := if_p c_16
          refine lv_aload_n hx hb dX2_reachWith_19 rfl (lv_at hl 0 rfl) ?_
          refine lv_iload_n hx hb dX2_reachWith_20 rfl (lv_at hl 2 rfl) ?_
          refine lv_bipush (v := (nI (47))) hx hb dX2_reachWith_21 (by decide) ?_
          refine ln_imul hx hb dX2_reachWith_23 ?_
          refine lv_aload_n hx hb dX2_reachWith_24 rfl (lv_at hl 0 rfl) ?_
          refine an_get (ci := 2) (v := .ref (g.2.2 7)) (C := RX2) (T := TX2) (N := 11) hx hb hts iw_X2_reachWith_X2 hown hK hP 19 rfl rfl 1 (by decide) (hts _ fl_X2_reachWith_32) rfl dX2_reachWith_25 ?_
          refine an_get (ci := 4) (v := .ref (g.2.2 11)) (C := RX4) (T := TX4) (N := 6) hx hb hts iw_X2_reachWith_X4 hown hK hP 7 rfl rfl 3 (by decide) (hts _ fl_X2_reachWith_73) rfl dX2_reachWith_28 ?_
          refine lv_iload_n hx hb dX2_reachWith_31 rfl (lv_at hl 1 rfl) ?_
          refine an_iald (f := sorts) hx hb hK hP 11 0 rfl rfl (by decide) (by omega) dX2_reachWith_32 ?_
          refine ln_toi (y := (nI (tn (sorts vocable)))) (hs9.1) ?_
          refine lv_bipush (v := (nI (47))) hx hb dX2_reachWith_33 (by decide) ?_
          refine ln_imul hx hb dX2_reachWith_35 ?_
          refine lv_aload_n hx hb dX2_reachWith_36 rfl (lv_at hl 0 rfl) ?_
          refine an_get (ci := 2) (v := .ref (g.2.2 20)) (C := RX2) (T := TX2) (N := 11) hx hb hts iw_X2_reachWith_X2 hown hK hP 19 rfl rfl 3 (by decide) (hts _ fl_X2_reachWith_11) rfl dX2_reachWith_37 ?_
          refine lv_iload_n hx hb dX2_reachWith_40 rfl (lv_at hl 1 rfl) ?_
          refine an_iald (f := ssums) hx hb hK hP 20 0 rfl rfl (by decide) (by omega) dX2_reachWith_41 ?_
          refine ln_toi (y := (nI (b2))) (hsu) ?_
          refine wr_callv (w := (fun (z : (Nat → Int64)) => (wX g asked values bytes starts ends length parts texts lengths feet sorts nxt size sums oneSums otherSums byFeet kept over rcount rcust ssums ways nextWays reached z found least greatest))) (va_runV (As := [.int (nI (k * 47)), .int (nI ((tn (sorts vocable)) * 47)), .int (nI (b2))]) (rest := []) ⟨hx, hb, hml, hown, hts⟩ (c_X2_addShifted l (g := g) (asked := asked) (values := values) (bytes := bytes) (starts := starts) (ends := ends) (length := length) (parts := parts) (texts := texts) (lengths := lengths) (feet := feet) (sorts := sorts) (nxt := nxt) (size := size) (sums := sums) (oneSums := oneSums) (otherSums := otherSums) (byFeet := byFeet) (kept := kept) (over := over) (rcount := rcount) (rcust := rcust) (ssums := ssums) (ways := ways) (nextWays := nextWays) (reached := reached) (nextReached := rwf nextReached reached sorts nxt b2 vocable k) (found := found) (least := least) (greatest := greatest) (sz := _) (k * 47) ((tn (sorts vocable)) * 47) (b2) (by omega) (by omega) hb2 hd) (cwV 3 hts gX2_reachWith_X2_addShifted rfl rfl rfl (by decide +kernel) ⟨Nat.le_of_ble_eq_true rfl, Nat.le_of_ble_eq_true rfl⟩) (pre_V qW_bl (va_recv hK hP (ci := 2) (q0 := 19) rfl rfl) (fun U hU hW => ⟨by rw [hU], pW_of hP hK hN hU hW⟩)) rfl rfl hl.1 rfl (lv_room (Nat.le_of_ble_eq_true rfl)) dX2_reachWith_42 ⟨Nat.zero_le _, Nat.zero_le _⟩) hS (fun nextReached42 H locs hp42 hP hS => ?_)
          have hP : va_P g.1 vwCl (wX g asked values bytes starts ends length parts texts lengths feet sorts nxt size sums oneSums otherSums byFeet kept over rcount rcust ssums ways nextWays reached nextReached42 found least greatest) H := hP
          subst hp42
          refine lv_iinc (v := (nI (k + 1))) (lv' := [(2, .int (nI (k + 1))), (0, .ref (g.2.2 19)), (1, .int (nI (vocable)))]) hx hb dX2_reachWith_45 hl (k := 2) rfl (nI_add _ 1) (by decide) rfl (fun ls hl => ?_)
          refine lv_goto (tgt := 2) hx hb dX2_reachWith_48 (by decide) ?_
          rw [rwf_y c_16] at hP
          exact ih_2 (k + 1) (by omega) (by omega) _ _ hP hS ls (lv_sub hl [1, 2, 0] rfl)
  exact lp_2 (4 - (0) + 1) 0 (Nat.zero_le _) (Nat.lt_succ_self _) _ _ hP hS ls (lv_sub hl [1, 2, 0] rfl)
theorem iw_X2_reachOverPart_X2 : ∀ w ∈ u_ws RX2 TX2 11, w ∈ wsX2_reachOverPart := by decide +kernel
theorem iw_X2_reachOverPart_X4 : ∀ w ∈ u_ws RX4 TX4 6, w ∈ wsX2_reachOverPart := by decide +kernel
theorem fl_X2_reachOverPart_22 : Cond.fieldLink RX2 22 (TX2 6).1 (TX2 6).2.1 (TX2 6).2.2.1 ∈ wsX2_reachOverPart := by decide +kernel
theorem fl_X2_reachOverPart_25 : Cond.fieldLink RX2 25 (TX2 7).1 (TX2 7).2.1 (TX2 7).2.2.1 ∈ wsX2_reachOverPart := by decide +kernel
theorem fl_X2_reachOverPart_28 : Cond.fieldLink RX2 28 (TX2 0).1 (TX2 0).2.1 (TX2 0).2.2.1 ∈ wsX2_reachOverPart := by decide +kernel
theorem fl_X2_reachOverPart_32 : Cond.fieldLink RX2 32 (TX2 1).1 (TX2 1).2.1 (TX2 1).2.2.1 ∈ wsX2_reachOverPart := by decide +kernel
theorem fl_X2_reachOverPart_40 : Cond.fieldLink RX2 40 (TX4 5).1 (TX4 5).2.1 (TX4 5).2.2.1 ∈ wsX2_reachOverPart := by decide +kernel
set_option maxHeartbeats 200000 in
set_option maxRecDepth 100000 in
theorem c_X2_reachOverPart (l : Launch) {g : GW} {asked : Int64} {values : Nat → Int32} {bytes : Nat → Int32} {starts : Nat → Int32} {ends : Nat → Int32} {L : Nat} {parts : Int32} {texts : Nat → Int32} {lengths : Nat → Int32} {feet : Nat → Int32} {sorts : Nat → Int32} {nxt : Nat → Int32} {nv : Nat} {sums : Nat → Int32} {oneSums : Nat → Int32} {otherSums : Nat → Int32} {byFeet : Nat → Int64} {kept : Nat → Int64} {over : Int32} {rcount : Int32} {rcust : Int32} {ssums : Nat → Int32} {ways : Nat → Int64} {nextWays : Nat → Int64} {reached : Nat → Int64} {nextReached : Nat → Int64} {found : Int32} {least : Int32} {greatest : Int32} {sz : Nat} (part : Nat) (hpt : part < pn bytes L) (hnv : nv ≤ 10) (hL2 : L ≤ 40) (hrow : prow bytes L starts ends) (hle : okV lengths nv 1 8) (hso : okV sorts nv 0 2) (ow : Nat → Nat) (hsu : ∀ v, v < nv → ssums v = nI (ow v) ∧ ow v ≤ 8000) (hd : dW 25 g.2.2) : Met l yX2_reachOverPart wsX2_reachOverPart ({ frames := 2, cells := 0, slots := 0, locals := 60 }) (va_Pc ([.ref (g.2.2 19), .int (nI (part))]) (qW g (wX g asked values bytes starts ends (nI (L)) parts texts lengths feet sorts nxt (nI (nv)) sums oneSums otherSums byFeet kept over rcount rcust ssums ways nextWays reached nextReached found least greatest) sz)) (va_Qv (fun (z : (Nat → Int64) × (Nat → Int64)) => ∃ u0 : Nat → Int64, (∀ j, j < 188 → u0 j = lN 0) ∧ ∀ j, j < 188 → z.1 j = rpf u0 reached bytes texts lengths sorts nxt L part ow nv j) (fun (z : (Nat → Int64) × (Nat → Int64)) (t : State) => va_P g.1 vwCl (wX g asked values bytes starts ends (nI (L)) parts texts lengths feet sorts nxt (nI (nv)) sums oneSums otherSums byFeet kept over rcount rcust ssums ways nextWays (z.1) (z.2) found least greatest) t.heap) (aW 25 g.2.2 sz)) 0 0 (aW 25 g.2.2 sz) := by
  refine Met.ofW (cc := cX2_reachOverPart) (maxL := 3) (ret := none) (by decide) rfl ?_
  intro p e s m args below meth c s₁ B hml hv
  obtain ⟨rfl, hsz9, hP, hK, hN⟩ := hv
  subst hsz9
  have hx := B.exec
  have hb := B.bytes
  have hr := B.returns
  have hts := atoms_spec (ws := wsX2_reachOverPart) B.pre
  have hown : s.vm.findClass RX2 = some m.cls := findClass_of_methodNamed B.named
  have hlocks := B.notSynchronized
  have hS : va_S (aW 25 g.2.2 s.heap.size) s.heap s.heap [] := va_S.rf
  have hl := lv_entry ([.ref (g.2.2 19), .int (nI (part))]) (n := 3) (Nat.le_of_ble_eq_true rfl)
  rw [lg_entry_eq]
  generalize (lg_sl ([.ref (g.2.2 19), .int (nI (part))]) ++ List.replicate (3 - (lg_sl ([.ref (g.2.2 19), .int (nI (part))])).length) Slot.unset).toArray = ls at hl ⊢
  have hl : lv_has ls 3 [(0, .ref (g.2.2 19)), (1, .int (nI (part)))] := hl
  refine lv_aload_n hx hb dX2_reachOverPart_0 rfl (lv_at hl 0 rfl) ?_
  refine an_get (ci := 2) (v := .ref (g.2.2 24)) (C := RX2) (T := TX2) (N := 11) hx hb hts iw_X2_reachOverPart_X2 hown hK hP 19 rfl rfl 7 (by decide) (hts _ fl_X2_reachOverPart_25) rfl dX2_reachOverPart_1 ?_
  refine lv_lconst (v := (lN (0))) hx hb dX2_reachOverPart_4 (by decide) ?_
  refine wr_callv (w := (fun (z : (Nat → Int64)) => (wX g asked values bytes starts ends (nI (L)) parts texts lengths feet sorts nxt (nI (nv)) sums oneSums otherSums byFeet kept over rcount rcust ssums ways nextWays reached z found least greatest))) (va_runS (As := [.ref (g.2.2 24), .long (lN (0))]) (rest := []) ⟨hx, hb, hml, hown, hts⟩ (c_J7_fill_nextReached l (g := g) (asked := asked) (values := values) (bytes := bytes) (starts := starts) (ends := ends) (length := nI (L)) (parts := parts) (texts := texts) (lengths := lengths) (feet := feet) (sorts := sorts) (nxt := nxt) (size := nI (nv)) (sums := sums) (oneSums := oneSums) (otherSums := otherSums) (byFeet := byFeet) (kept := kept) (over := over) (rcount := rcount) (rcust := rcust) (ssums := ssums) (ways := ways) (nextWays := nextWays) (reached := reached) (nextReached := nextReached) (found := found) (least := least) (greatest := greatest) (sz := _) (0) hd) (va_cwS 2 hts gX2_reachOverPart_J7_fill_d0a16 rfl rfl rfl (by decide +kernel) ⟨Nat.le_of_ble_eq_true rfl, Nat.le_of_ble_eq_true rfl⟩) (pre_S qW_bl (fun U hU hW => ⟨by rw [hU], pW_of hP hK hN hU hW⟩)) rfl rfl hl.1 rfl (lv_room (Nat.le_of_ble_eq_true rfl)) dX2_reachOverPart_5 ⟨Nat.zero_le _, Nat.zero_le _⟩) hS (fun nextReached5 H locs hp5 hP hS => ?_)
  have hP : va_P g.1 vwCl (wX g asked values bytes starts ends (nI (L)) parts texts lengths feet sorts nxt (nI (nv)) sums oneSums otherSums byFeet kept over rcount rcust ssums ways nextWays reached nextReached5 found least greatest) H := hP
  refine lv_iconst (v := (nI (0))) hx hb dX2_reachOverPart_8 (by decide) ?_
  refine lv_istore_n (lv' := [(2, .int (nI (0))), (0, .ref (g.2.2 19)), (1, .int (nI (part)))]) hx hb dX2_reachOverPart_9 rfl hl (by decide) rfl (fun ls hl => ?_)
  have lp_10 : ∀ (n : Nat) (i : Nat), (i ≤ nv) → nv - i < n → ∀ (H : Heap) (locs : List Loc), va_P g.1 vwCl (wX g asked values bytes starts ends (nI (L)) parts texts lengths feet sorts nxt (nI (nv)) sums oneSums otherSums byFeet kept over rcount rcust ssums ways nextWays reached (rpf nextReached5 reached bytes texts lengths sorts nxt L part ow i) found least greatest) H → va_S (aW 25 g.2.2 s.heap.size) s.heap H locs → ∀ (ls : Array Slot), lv_has ls 3 [(0, .ref (g.2.2 19)), (1, .int (nI (part))), (2, .int (nI (i)))] → W p l e (headSpec wsX2_reachOverPart ({ frames := 2, cells := 0, slots := 0, locals := 60 })).room s m (([.ref (g.2.2 19), .int (nI (part))] : List Value).toArray) below meth c H locs 0 0 (MQ below (va_Qv (fun (z : (Nat → Int64) × (Nat → Int64)) => ∃ u0 : Nat → Int64, (∀ j, j < 188 → u0 j = lN 0) ∧ ∀ j, j < 188 → z.1 j = rpf u0 reached bytes texts lengths sorts nxt L part ow nv j) (fun (z : (Nat → Int64) × (Nat → Int64)) (t : State) => va_P g.1 vwCl (wX g asked values bytes starts ends (nI (L)) parts texts lengths feet sorts nxt (nI (nv)) sums oneSums otherSums byFeet kept over rcount rcust ssums ways nextWays (z.1) (z.2) found least greatest) t.heap) (aW 25 g.2.2 s.heap.size)) (([.ref (g.2.2 19), .int (nI (part))] : List Value).toArray) s 0 0 (aW 25 g.2.2 s.heap.size)) (F0 m 10 ls []) := by
    intro n
    induction n with
    | zero => intro i hi hm; exact absurd hm (Nat.not_lt_zero _)
    | succ n ih_10 =>
      intro i hi hm_10 H locs hP hS ls hl
      refine lv_iload_n hx hb dX2_reachOverPart_10 rfl (lv_at hl 2 rfl) ?_
      refine lv_aload_n hx hb dX2_reachOverPart_11 rfl (lv_at hl 0 rfl) ?_
      refine an_get (ci := 2) (v := .ref (g.2.2 7)) (C := RX2) (T := TX2) (N := 11) hx hb hts iw_X2_reachOverPart_X2 hown hK hP 19 rfl rfl 1 (by decide) (hts _ fl_X2_reachOverPart_32) rfl dX2_reachOverPart_12 ?_
      refine an_get (ci := 4) (v := .int (nI (nv))) (C := RX4) (T := TX4) (N := 6) hx hb hts iw_X2_reachOverPart_X4 hown hK hP 7 rfl rfl 5 (by decide) (hts _ fl_X2_reachOverPart_40) rfl dX2_reachOverPart_15 ?_
      refine lv_icmp_ge (tgt := 48) hx hb dX2_reachOverPart_18 (by decide) (fun c_18 => ?_) (fun c_18 => ?_)
      · have c_18 := (cv_le_nn (by omega) (by omega)).mp c_18
        refine lv_aload_n hx hb dX2_reachOverPart_48 rfl (lv_at hl 0 rfl) ?_
        refine an_get (ci := 2) (v := .ref (g.2.2 24)) (C := RX2) (T := TX2) (N := 11) hx hb hts iw_X2_reachOverPart_X2 hown hK hP 19 rfl rfl 7 (by decide) (hts _ fl_X2_reachOverPart_25) rfl dX2_reachOverPart_49 ?_
        refine lv_iconst (v := (nI (0))) hx hb dX2_reachOverPart_52 (by decide) ?_
        refine lv_aload_n hx hb dX2_reachOverPart_53 rfl (lv_at hl 0 rfl) ?_
        refine an_get (ci := 2) (v := .ref (g.2.2 23)) (C := RX2) (T := TX2) (N := 11) hx hb hts iw_X2_reachOverPart_X2 hown hK hP 19 rfl rfl 6 (by decide) (hts _ fl_X2_reachOverPart_22) rfl dX2_reachOverPart_54 ?_
        refine lv_iconst (v := (nI (0))) hx hb dX2_reachOverPart_57 (by decide) ?_
        refine lv_aload_n hx hb dX2_reachOverPart_58 rfl (lv_at hl 0 rfl) ?_
        refine an_get (ci := 2) (v := .ref (g.2.2 23)) (C := RX2) (T := TX2) (N := 11) hx hb hts iw_X2_reachOverPart_X2 hown hK hP 19 rfl rfl 6 (by decide) (hts _ fl_X2_reachOverPart_22) rfl dX2_reachOverPart_59 ?_
        refine va_alen (v := nI 188) hx hb hK hP 23 1 rfl rfl rfl dX2_reachOverPart_62 ?_
        refine an_copyl (f := rpf nextReached5 reached bytes texts lengths sorts nxt L part ow i) (f1 := reached) (ws' := (wX g asked values bytes starts ends (nI (L)) parts texts lengths feet sorts nxt (nI (nv)) sums oneSums otherSums byFeet kept over rcount rcust ssums ways nextWays (va_cpy (rpf nextReached5 reached bytes texts lengths sorts nxt L part ow i) (reached) (0) (0) (188)) (rpf nextReached5 reached bytes texts lengths sorts nxt L part ow i) found least greatest)) hx hb (by rw [hml]; exact hl.1.symm) hown (hts (.methodLink RX2 106 arraycopyName) (by decide +kernel)) (hts (.native arraycopyName) (by decide +kernel)) (hts (.static arraycopyName) (by decide +kernel)) (hts (.initialized "java/lang/System") (by decide +kernel)) hK hP (wX_D hd) hS 24 23 1 rfl rfl rfl (by omega) (by omega) (by omega) (by omega) (by omega) rfl (Nat.le_of_ble_eq_true rfl) (Nat.le_of_ble_eq_true rfl) dX2_reachOverPart_63 (fun H locs hP hS => ?_)
        exact wr_vret (va_cpy (rpf nextReached5 reached bytes texts lengths sorts nxt L part ow i) (reached) (0) (0) (188), rpf nextReached5 reached bytes texts lengths sorts nxt L part ow i) hx hb hr hlocks (⟨nextReached5, hp5, fun j hj => by rw [← show i = nv by omega]; show va_cpy _ _ 0 0 188 j = _; unfold va_cpy; rw [if_pos (by omega)]; congr 1; omega⟩) (fun t ht => show va_P g.1 vwCl (wX g asked values bytes starts ends (nI (L)) parts texts lengths feet sorts nxt (nI (nv)) sums oneSums otherSums byFeet kept over rcount rcust ssums ways nextWays (va_cpy (rpf nextReached5 reached bytes texts lengths sorts nxt L part ow i) (reached) (0) (0) (188)) (rpf nextReached5 reached bytes texts lengths sorts nxt L part ow i) found least greatest) t.heap by rw [ht]; exact hP) hS dX2_reachOverPart_66
      · have c_18 := (not_congr (cv_le_nn (by omega) (by omega))).mp c_18
        refine lv_aload_n hx hb dX2_reachOverPart_21 rfl (lv_at hl 0 rfl) ?_
        refine an_get (ci := 2) (v := .ref (g.2.2 7)) (C := RX2) (T := TX2) (N := 11) hx hb hts iw_X2_reachOverPart_X2 hown hK hP 19 rfl rfl 1 (by decide) (hts _ fl_X2_reachOverPart_32) rfl dX2_reachOverPart_22 ?_
        refine lv_iload_n hx hb dX2_reachOverPart_25 rfl (lv_at hl 2 rfl) ?_
        refine lv_aload_n hx hb dX2_reachOverPart_26 rfl (lv_at hl 0 rfl) ?_
        refine an_get (ci := 2) (v := .ref (g.2.2 3)) (C := RX2) (T := TX2) (N := 11) hx hb hts iw_X2_reachOverPart_X2 hown hK hP 19 rfl rfl 0 (by decide) (hts _ fl_X2_reachOverPart_28) rfl dX2_reachOverPart_27 ?_
        refine lv_iload_n hx hb dX2_reachOverPart_30 rfl (lv_at hl 1 rfl) ?_
        refine ro_call (va_runV (As := [.int (nI (i)), .ref (g.2.2 3), .int (nI (part))]) (rest := []) ⟨hx, hb, hml, hown, hts⟩ (c_X4_fitsPart l (g := g) (asked := asked) (values := values) (bytes := bytes) (starts := starts) (ends := ends) (L := L) (parts := parts) (texts := texts) (lengths := lengths) (feet := feet) (sorts := sorts) (nxt := nxt) (size := nI (nv)) (sums := sums) (oneSums := oneSums) (otherSums := otherSums) (byFeet := byFeet) (kept := kept) (over := over) (rcount := rcount) (rcust := rcust) (ssums := ssums) (ways := ways) (nextWays := nextWays) (reached := reached) (nextReached := rpf nextReached5 reached bytes texts lengths sorts nxt L part ow i) (found := found) (least := least) (greatest := greatest) (i) (part) nv hnv (by omega) hL2 hpt hrow hle) (cwV 3 hts gX2_reachOverPart_X4_fitsPart rfl rfl rfl (by decide +kernel) ⟨Nat.le_of_ble_eq_true rfl, Nat.le_of_ble_eq_true rfl⟩) (pre_V pW_bl (va_recv hK hP (ci := 4) (q0 := 7) rfl rfl) (fun U hU hW => pW_of hP hK hN hU hW)) rfl rfl hl.1 rfl (lv_room (Nat.le_of_ble_eq_true rfl)) dX2_reachOverPart_31 ⟨Nat.zero_le _, Nat.zero_le _⟩) ?_
        refine lv_if_eq (tgt := 42) hx hb dX2_reachOverPart_34 (by decide) (fun c_34 => ?_) (fun c_34 => ?_)
        · have c_34 := if_n c_34
          refine lv_iinc (v := (nI (i + 1))) (lv' := [(2, .int (nI (i + 1))), (0, .ref (g.2.2 19)), (1, .int (nI (part)))]) hx hb dX2_reachOverPart_42 hl (k := 2) rfl (nI_add _ 1) (by decide) rfl (fun ls hl => ?_)
          refine lv_goto (tgt := 10) hx hb dX2_reachOverPart_45 (by decide) ?_
          rw [rpf_n (u0 := nextReached5) (r := reached) (so := sorts) (nx := nxt) (ow := ow) c_34] at hP
          exact ih_10 (i + 1) (by omega) (by omega) _ _ hP hS ls (lv_sub hl [1, 2, 0] rfl)
        · have c_34 := if_p c_34
          refine lv_aload_n hx hb dX2_reachOverPart_37 rfl (lv_at hl 0 rfl) ?_
          refine lv_iload_n hx hb dX2_reachOverPart_38 rfl (lv_at hl 2 rfl) ?_
          refine wr_callv (w := (fun (z : (Nat → Int64)) => (wX g asked values bytes starts ends (nI (L)) parts texts lengths feet sorts nxt (nI (nv)) sums oneSums otherSums byFeet kept over rcount rcust ssums ways nextWays reached z found least greatest))) (va_runV (As := [.int (nI (i))]) (rest := []) ⟨hx, hb, hml, hown, hts⟩ (c_X2_reachWith l (g := g) (asked := asked) (values := values) (bytes := bytes) (starts := starts) (ends := ends) (length := nI (L)) (parts := parts) (texts := texts) (lengths := lengths) (feet := feet) (sorts := sorts) (nxt := nxt) (size := nI (nv)) (sums := sums) (oneSums := oneSums) (otherSums := otherSums) (byFeet := byFeet) (kept := kept) (over := over) (rcount := rcount) (rcust := rcust) (ssums := ssums) (ways := ways) (nextWays := nextWays) (reached := reached) (nextReached := rpf nextReached5 reached bytes texts lengths sorts nxt L part ow i) (found := found) (least := least) (greatest := greatest) (sz := _) (i) (ow i) (by omega) (hsu i (by omega)).1 (hsu i (by omega)).2 ⟨(hso i (by omega)).1, (hso i (by omega)).2.2⟩ hd) (cwV 1 hts gX2_reachOverPart_X2_reachWith rfl rfl rfl (by decide +kernel) ⟨Nat.le_of_ble_eq_true rfl, Nat.le_of_ble_eq_true rfl⟩) (pre_V qW_bl (va_recv hK hP (ci := 2) (q0 := 19) rfl rfl) (fun U hU hW => ⟨by rw [hU], pW_of hP hK hN hU hW⟩)) rfl rfl hl.1 rfl (lv_room (Nat.le_of_ble_eq_true rfl)) dX2_reachOverPart_39 ⟨Nat.zero_le _, Nat.zero_le _⟩) hS (fun nextReached39 H locs hp39 hP hS => ?_)
          have hP : va_P g.1 vwCl (wX g asked values bytes starts ends (nI (L)) parts texts lengths feet sorts nxt (nI (nv)) sums oneSums otherSums byFeet kept over rcount rcust ssums ways nextWays reached nextReached39 found least greatest) H := hP
          subst hp39
          refine lv_iinc (v := (nI (i + 1))) (lv' := [(2, .int (nI (i + 1))), (0, .ref (g.2.2 19)), (1, .int (nI (part)))]) hx hb dX2_reachOverPart_42 hl (k := 2) rfl (nI_add _ 1) (by decide) rfl (fun ls hl => ?_)
          refine lv_goto (tgt := 10) hx hb dX2_reachOverPart_45 (by decide) ?_
          rw [rpf_y (u0 := nextReached5) (r := reached) (so := sorts) (nx := nxt) (ow := ow) c_34] at hP
          exact ih_10 (i + 1) (by omega) (by omega) _ _ hP hS ls (lv_sub hl [1, 2, 0] rfl)
  exact lp_10 (nv - (0) + 1) 0 (Nat.zero_le _) (Nat.lt_succ_self _) _ _ hP hS ls (lv_sub hl [1, 2, 0] rfl)
