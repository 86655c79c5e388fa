set_option maxHeartbeats 200000 in
set_option maxRecDepth 100000 in
theorem c_X5_isValue (l : Launch) (v : Int32)  : Met l yX5_isValue wsX5_isValue ({ frames := 0, cells := 0, slots := 0, locals := 0 }) (va_Pc ([.int (v)]) (fun U => (fun _ => True) U ∧ stS "VALUES" 8 tabV U)) (ro_Q (.int (if isVal v then 1 else 0))) 0 0 (fun _ => False) := by
  refine Met.ofW (cc := cX5_isValue) (maxL := 5) (ret := (some .boolean)) (by decide) rfl ?_
  intro p e s m args below meth c s₁ B hml hv
  obtain ⟨hv0, hv, hst9⟩ := hv
  have hv := And.intro hv0 hv
  obtain ⟨t9, hZ, hT⟩ := id hst9
  obtain ⟨rfl, -⟩ := hv
  have hx := B.exec
  have hb := B.bytes
  have hr := B.returns
  have hts := atoms_spec (ws := wsX5_isValue) B.pre
  have hown : s.vm.findClass RX5 = some m.cls := findClass_of_methodNamed B.named
  have hlocks := B.notSynchronized
  have hl := lv_entry ([.int (v)]) (n := 5) (Nat.le_of_ble_eq_true rfl)
  rw [lg_entry_eq]
  generalize (lg_sl ([.int (v)]) ++ List.replicate (5 - (lg_sl ([.int (v)])).length) Slot.unset).toArray = ls at hl ⊢
  have hl : lv_has ls 5 [(0, .int (v))] := hl
  refine va_gets hx hb hZ va_S.rf hown (hts (.fieldLink RX5 180 "VerseYears" "VALUES" "[I") (by decide +kernel)) (fun _ h => h) dX5_isValue_0 ?_
  refine lv_astore_n (lv' := [(1, .ref (t9)), (0, .int (v))]) hx hb dX5_isValue_3 rfl hl (by decide) rfl (fun ls hl => ?_)
  refine lv_aload_n hx hb dX5_isValue_4 rfl (lv_at hl 0 rfl) ?_
  refine va_tlen (v := nI 8) hx hb hT va_S.rf rfl dX5_isValue_5 ?_
  refine lv_istore_n (lv' := [(2, .int (nI (8))), (1, .ref (t9)), (0, .int (v))]) hx hb dX5_isValue_6 rfl hl (by decide) rfl (fun ls hl => ?_)
  refine lv_iconst (v := (nI (0))) hx hb dX5_isValue_7 (by decide) ?_
  refine lv_istore_n (lv' := [(3, .int (nI (0))), (2, .int (nI (8))), (1, .ref (t9)), (0, .int (v))]) hx hb dX5_isValue_8 rfl hl (by decide) rfl (fun ls hl => ?_)
  have lp_9 : ∀ (n : Nat) (i : Nat), (i ≤ 8) → (∀ k, k < i → ¬ ((vlt k : Nat) : Int) = v.toInt) → 8 - i < n → ∀ (ls : Array Slot), lv_has ls 5 [(0, .int (v)), (1, .ref (t9)), (2, .int (nI (8))), (3, .int (nI (i)))] → W p l e (headSpec wsX5_isValue ({ frames := 0, cells := 0, slots := 0, locals := 0 })).room s m (([.int (v)] : List Value).toArray) below meth c s.heap [] 0 0 (MQ below (ro_Q (.int (if isVal v then 1 else 0))) (([.int (v)] : List Value).toArray) s 0 0 (fun _ => False)) (F0 m 9 ls []) := by
    intro n
    induction n with
    | zero => intro i hi ho hm; exact absurd hm (Nat.not_lt_zero _)
    | succ n ih_9 =>
      intro i hi ho hm_9 ls hl
      refine lv_iload_n hx hb dX5_isValue_9 rfl (lv_at hl 3 rfl) ?_
      refine lv_iload_n hx hb dX5_isValue_10 rfl (lv_at hl 2 rfl) ?_
      refine lv_icmp_ge (tgt := 33) hx hb dX5_isValue_11 (by decide) (fun c_11 => ?_) (fun c_11 => ?_)
      · have c_11 := (cv_le_nn (by omega) (by omega)).mp c_11
        refine lv_iconst (v := (nI (0))) hx hb dX5_isValue_33 (by decide) ?_
        exact ro_zret hx hb hr hlocks (rfl) (zero_if (vlt_n (fun k hk => ho k (by omega)))) dX5_isValue_34
      · have c_11 := (not_congr (cv_le_nn (by omega) (by omega))).mp c_11
        refine lv_aload_n hx hb dX5_isValue_14 rfl (lv_at hl 1 rfl) ?_
        refine lv_iload_n hx hb dX5_isValue_15 rfl (lv_at hl 3 rfl) ?_
        refine va_ti (v := .int (nI (vlt (i)))) hx hb hT va_S.rf (vp_in_nI (by omega) (by decide)) (by rw [nI_clamp (by omega)]; exact tabV_e (by omega)) dX5_isValue_16 ?_
        refine lv_istore (lv' := [(4, .int (nI (vlt (i)))), (0, .int (v)), (1, .ref (t9)), (2, .int (nI (8))), (3, .int (nI (i)))]) hx hb dX5_isValue_17 hl (by decide) rfl (fun ls hl => ?_)
        refine lv_iload hx hb dX5_isValue_19 (lv_at hl 0 rfl) ?_
        refine lv_iload_n hx hb dX5_isValue_21 rfl (lv_at hl 1 rfl) ?_
        refine lv_icmp_ne (tgt := 27) hx hb dX5_isValue_22 (by decide) (fun c_22 => ?_) (fun c_22 => ?_)
        · have c_22 := (not_congr (cv_eq_ni (vlt_b _))).mp c_22
          refine lv_iinc (v := (nI (i + 1))) (lv' := [(3, .int (nI (i + 1))), (4, .int (nI (vlt (i)))), (0, .int (v)), (1, .ref (t9)), (2, .int (nI (8)))]) hx hb dX5_isValue_27 hl (k := 4) rfl (nI_add _ 1) (by decide) rfl (fun ls hl => ?_)
          refine lv_goto (tgt := 9) hx hb dX5_isValue_30 (by decide) ?_
          exact ih_9 (i + 1) (by omega) (lt_s ho c_22) (by omega) ls (lv_sub hl [2, 3, 4, 0] rfl)
        · have c_22 := (cv_eq_ni (vlt_b _)).mp c_22
          refine lv_iconst (v := (nI (1))) hx hb dX5_isValue_25 (by decide) ?_
          exact ro_zret hx hb hr hlocks (rfl) (one_if (vlt_y (by omega) c_22)) dX5_isValue_26
  exact lp_9 (8 - (0) + 1) 0 (Nat.zero_le _) (fun k hk => absurd hk (Nat.not_lt_zero k)) (Nat.lt_succ_self _) ls (lv_sub hl [3, 2, 1, 0] rfl)
theorem iw_X5_value_X5 : ∀ w ∈ u_ws RX5 TX5 6, w ∈ wsX5_value := by decide +kernel
theorem fl_X5_value_10 : Cond.fieldLink RX5 10 (TX5 0).1 (TX5 0).2.1 (TX5 0).2.2.1 ∈ wsX5_value := by decide +kernel
theorem fl_X5_value_35 : Cond.fieldLink RX5 35 (TX5 3).1 (TX5 3).2.1 (TX5 3).2.2.1 ∈ wsX5_value := by decide +kernel
set_option maxHeartbeats 200000 in
set_option maxRecDepth 100000 in
theorem c_X5_value (l : Launch) {g : GW} {asked : Int64} {values : Nat → Int32} {bytes : Nat → Int32} {starts : Nat → Int32} {ends : Nat → Int32} {length : Int32} {parts : Int32} {texts : Nat → Int32} {lengths : Nat → Int32} {feet : Nat → Int32} {sorts : Nat → Int32} {nxt : Nat → Int32} {size : Int32} {sums : Nat → Int32} {oneSums : Nat → Int32} {otherSums : Nat → Int32} {byFeet : Nat → Int64} {kept : Nat → Int64} {over : Int32} {rcount : Int32} {rcust : Int32} {ssums : Nat → Int32} {ways : Nat → Int64} {nextWays : Nat → Int64} {reached : Nat → Int64} {nextReached : Nat → Int64} {found : Int32} {least : Int32} {greatest : Int32} {sz : Nat} (custom : Int32) (letter : Int32) (v : Int32)  (hd : dW 25 g.2.2) : Met l yX5_value wsX5_value ({ frames := 1, cells := 0, slots := 0, locals := 25 }) (va_Pc ([.ref (g.2.2 0), .int (custom), .int (letter), .int (v)]) (fun U => (qW g (wX g asked values bytes starts ends length parts texts lengths feet sorts nxt size sums oneSums otherSums byFeet kept over rcount rcust ssums ways nextWays reached nextReached found least greatest) sz) U ∧ stS "VALUES" 8 tabV U)) (va_Qi (fun (r : Int32) (z : (Nat → Int32) × Int32) => (¬ vok custom letter v ∧ r = (-1 : Int32) ∧ z.1 = values ∧ z.2 = over) ∨ (vok custom letter v ∧ r = values (26 * tn custom + (tn letter - 97)) ∧ z.1 = upd values (26 * tn custom + (tn letter - 97)) v ∧ z.2 = nI 1)) (fun (z : (Nat → Int32) × Int32) (t : State) => va_P g.1 vwCl (wX g asked (z.1) bytes starts ends length parts texts lengths feet sorts nxt size sums oneSums otherSums byFeet kept (z.2) rcount rcust ssums ways nextWays reached nextReached found least greatest) t.heap) (aW 25 g.2.2 sz)) 0 0 (aW 25 g.2.2 sz) := by
  refine Met.ofW (cc := cX5_value) (maxL := 4) (ret := (some .int)) (by decide) rfl ?_
  intro p e s m args below meth c s₁ B hml hv
  obtain ⟨hv0, hv, hst9⟩ := hv
  have hv := And.intro hv0 hv
  obtain ⟨t9, hZ, hT⟩ := id hst9
  obtain ⟨rfl, hsz9, hP, hK, hN⟩ := hv
  subst hsz9
  have hx := B.exec
  have hb := B.bytes
  have hr := B.returns
  have hts := atoms_spec (ws := wsX5_value) B.pre
  have hown : s.vm.findClass RX5 = some m.cls := findClass_of_methodNamed B.named
  have hlocks := B.notSynchronized
  have hS : va_S (aW 25 g.2.2 s.heap.size) s.heap s.heap [] := va_S.rf
  have hl := lv_entry ([.ref (g.2.2 0), .int (custom), .int (letter), .int (v)]) (n := 4) (Nat.le_of_ble_eq_true rfl)
  rw [lg_entry_eq]
  generalize (lg_sl ([.ref (g.2.2 0), .int (custom), .int (letter), .int (v)]) ++ List.replicate (4 - (lg_sl ([.ref (g.2.2 0), .int (custom), .int (letter), .int (v)])).length) Slot.unset).toArray = ls at hl ⊢
  have hl : lv_has ls 4 [(0, .ref (g.2.2 0)), (1, .int (custom)), (2, .int (letter)), (3, .int (v))] := hl
  refine lv_iload_n hx hb dX5_value_0 rfl (lv_at hl 1 rfl) ?_
  refine lv_iconst (v := (nI (4))) hx hb dX5_value_1 (by decide) ?_
  refine ro_call (va_runS (As := [.int (custom), .int (nI (4))]) (rest := []) ⟨hx, hb, hml, hown, hts⟩ (c_X5_isWithin l (custom) (4) (by decide)) (va_cwS 2 hts gX5_value_X5_isWithin rfl rfl rfl (by decide +kernel) ⟨Nat.le_of_ble_eq_true rfl, Nat.le_of_ble_eq_true rfl⟩) pre_0 rfl rfl hl.1 rfl (lv_room (Nat.le_of_ble_eq_true rfl)) dX5_value_2 ⟨Nat.zero_le _, Nat.zero_le _⟩) ?_
  refine lv_if_eq (tgt := 27) hx hb dX5_value_5 (by decide) (fun c_5 => ?_) (fun c_5 => ?_)
  · have c_5 := if_n c_5
    refine lv_iconst (v := ((-1 : Int32))) hx hb dX5_value_27 (by decide) ?_
    exact wr_iret (values, over) hx hb hr hlocks (Or.inl ⟨by omega, rfl, rfl, rfl⟩) (fun t ht => show va_P g.1 vwCl (wX g asked values bytes starts ends length parts texts lengths feet sorts nxt size sums oneSums otherSums byFeet kept over rcount rcust ssums ways nextWays reached nextReached found least greatest) t.heap by rw [ht]; exact hP) hS dX5_value_28
  · have c_5 := if_p c_5
    refine lv_iload_n hx hb dX5_value_8 rfl (lv_at hl 2 rfl) ?_
    refine lv_bipush (v := (nI (97))) hx hb dX5_value_9 (by decide) ?_
    refine lv_icmp_lt (tgt := 27) hx hb dX5_value_11 (by decide) (fun c_11 => ?_) (fun c_11 => ?_)
    · have c_11 := (cv_lt_in (by omega)).mp c_11
      refine lv_iconst (v := ((-1 : Int32))) hx hb dX5_value_27 (by decide) ?_
      exact wr_iret (values, over) hx hb hr hlocks (Or.inl ⟨by omega, rfl, rfl, rfl⟩) (fun t ht => show va_P g.1 vwCl (wX g asked values bytes starts ends length parts texts lengths feet sorts nxt size sums oneSums otherSums byFeet kept over rcount rcust ssums ways nextWays reached nextReached found least greatest) t.heap by rw [ht]; exact hP) hS dX5_value_28
    · have c_11 := (not_congr (cv_lt_in (by omega))).mp c_11
      refine lv_iload_n hx hb dX5_value_14 rfl (lv_at hl 2 rfl) ?_
      refine lv_bipush (v := (nI (122))) hx hb dX5_value_15 (by decide) ?_
      refine lv_icmp_gt (tgt := 27) hx hb dX5_value_17 (by decide) (fun c_17 => ?_) (fun c_17 => ?_)
      · have c_17 := (cv_lt_ni (by omega)).mp c_17
        refine lv_iconst (v := ((-1 : Int32))) hx hb dX5_value_27 (by decide) ?_
        exact wr_iret (values, over) hx hb hr hlocks (Or.inl ⟨by omega, rfl, rfl, rfl⟩) (fun t ht => show va_P g.1 vwCl (wX g asked values bytes starts ends length parts texts lengths feet sorts nxt size sums oneSums otherSums byFeet kept over rcount rcust ssums ways nextWays reached nextReached found least greatest) t.heap by rw [ht]; exact hP) hS dX5_value_28
      · have c_17 := (not_congr (cv_lt_ni (by omega))).mp c_17
        refine lv_iload_n hx hb dX5_value_20 rfl (lv_at hl 3 rfl) ?_
        refine ro_call (va_runS (As := [.int (v)]) (rest := []) ⟨hx, hb, hml, hown, hts⟩ (c_X5_isValue l (v)) (va_cwS 1 hts gX5_value_X5_isValue rfl rfl rfl (by decide +kernel) ⟨Nat.le_of_ble_eq_true rfl, Nat.le_of_ble_eq_true rfl⟩) (pre_S (P := fun U => (fun _ => True) U ∧ stS "VALUES" 8 tabV U) (fun U j mk a h => ⟨trivial, stS_bl U j mk a h.2⟩) (fun U hU hW => ⟨trivial, stS_of hst9 hU hW⟩)) rfl rfl hl.1 rfl (lv_room (Nat.le_of_ble_eq_true rfl)) dX5_value_21 ⟨Nat.zero_le _, Nat.zero_le _⟩) ?_
        refine lv_if_ne (tgt := 29) hx hb dX5_value_24 (by decide) (fun c_24 => ?_) (fun c_24 => ?_)
        · have c_24 := if_p c_24
          obtain ⟨cc9, hc9, rfl⟩ := iN_of c_5.1 c_5.2
          obtain ⟨lj, hlj, rfl⟩ := iN_of (x := letter) (b := 123) (by omega) (by omega)
          have hlt : (nI lj).toInt = (lj : Int) := nI_toInt (by omega)
          have hct : (nI cc9).toInt = (cc9 : Int) := nI_toInt (by omega)
          refine lv_aload_n hx hb dX5_value_29 rfl (lv_at hl 0 rfl) ?_
          refine an_get (ci := 5) (v := .ref (g.2.2 13)) (C := RX5) (T := TX5) (N := 6) hx hb hts iw_X5_value_X5 hown hK hP 0 rfl rfl 3 (by decide) (hts _ fl_X5_value_35) rfl dX5_value_30 ?_
          refine wr_callv (w := (fun (z : Int32) => (wX g asked values bytes starts ends length parts texts lengths feet sorts nxt size sums oneSums otherSums byFeet kept z rcount rcust ssums ways nextWays reached nextReached found least greatest))) (va_runV (As := []) (rest := []) ⟨hx, hb, hml, hown, hts⟩ (c_X3_forget l (g := g) (asked := asked) (values := values) (bytes := bytes) (starts := starts) (ends := ends) (length := length) (parts := parts) (texts := texts) (lengths := lengths) (feet := feet) (sorts := sorts) (nxt := nxt) (size := size) (sums := sums) (oneSums := oneSums) (otherSums := otherSums) (byFeet := byFeet) (kept := kept) (over := over) (rcount := rcount) (rcust := rcust) (ssums := ssums) (ways := ways) (nextWays := nextWays) (reached := reached) (nextReached := nextReached) (found := found) (least := least) (greatest := greatest) (sz := _)  hd) (cwV 0 hts gX5_value_X3_forget rfl rfl rfl (by decide +kernel) ⟨Nat.le_of_ble_eq_true rfl, Nat.le_of_ble_eq_true rfl⟩) (pre_V qW_bl (va_recv hK hP (ci := 3) (q0 := 13) rfl rfl) (fun U hU hW => ⟨by rw [hU], pW_of hP hK hN hU hW⟩)) rfl rfl hl.1 rfl (lv_room (Nat.le_of_ble_eq_true rfl)) dX5_value_33 ⟨Nat.zero_le _, Nat.zero_le _⟩) hS (fun over33 H locs hp33 hP hS => ?_)
          have hP : va_P g.1 vwCl (wX g asked values bytes starts ends length parts texts lengths feet sorts nxt size sums oneSums otherSums byFeet kept over33 rcount rcust ssums ways nextWays reached nextReached found least greatest) H := hP
          refine lv_aload_n hx hb dX5_value_36 rfl (lv_at hl 0 rfl) ?_
          refine an_get (ci := 5) (v := .ref (g.2.2 1)) (C := RX5) (T := TX5) (N := 6) hx hb hts iw_X5_value_X5 hown hK hP 0 rfl rfl 0 (by decide) (hts _ fl_X5_value_10) rfl dX5_value_37 ?_
          refine lv_iload_n hx hb dX5_value_40 rfl (lv_at hl 1 rfl) ?_
          refine lv_iload_n hx hb dX5_value_41 rfl (lv_at hl 2 rfl) ?_
          refine lv_iload_n hx hb dX5_value_42 rfl (lv_at hl 3 rfl) ?_
          refine wr_calli (w := (fun (z : (Nat → Int32)) => (wX g asked z bytes starts ends length parts texts lengths feet sorts nxt size sums oneSums otherSums byFeet kept over33 rcount rcust ssums ways nextWays reached nextReached found least greatest))) (va_runV (As := [.int (nI (cc9)), .int (nI (lj)), .int (v)]) (rest := []) ⟨hx, hb, hml, hown, hts⟩ (c_X0_replace l (g := g) (asked := asked) (values := values) (bytes := bytes) (starts := starts) (ends := ends) (length := length) (parts := parts) (texts := texts) (lengths := lengths) (feet := feet) (sorts := sorts) (nxt := nxt) (size := size) (sums := sums) (oneSums := oneSums) (otherSums := otherSums) (byFeet := byFeet) (kept := kept) (over := over33) (rcount := rcount) (rcust := rcust) (ssums := ssums) (ways := ways) (nextWays := nextWays) (reached := reached) (nextReached := nextReached) (found := found) (least := least) (greatest := greatest) (sz := _) (cc9) (lj) (v) hc9 (by omega) (by omega) hd) (cwV 3 hts gX5_value_X0_replace rfl rfl rfl (by decide +kernel) ⟨Nat.le_of_ble_eq_true rfl, Nat.le_of_ble_eq_true rfl⟩) (pre_V qW_bl (va_recv hK hP (ci := 0) (q0 := 1) rfl rfl) (fun U hU hW => ⟨by rw [hU], pW_of hP hK hN hU hW⟩)) rfl rfl hl.1 rfl (lv_room (Nat.le_of_ble_eq_true rfl)) dX5_value_43 ⟨Nat.zero_le _, Nat.zero_le _⟩) hS (fun r43 values43 H locs hp43 hP hS => ?_)
          have hP : va_P g.1 vwCl (wX g asked values43 bytes starts ends length parts texts lengths feet sorts nxt size sums oneSums otherSums byFeet kept over33 rcount rcust ssums ways nextWays reached nextReached found least greatest) H := hP
          exact wr_iret (values43, over33) hx hb hr hlocks (by rw [tn_nI (show cc9 < 2 ^ 31 by omega), tn_nI (show lj < 2 ^ 31 by omega)]; exact Or.inr ⟨by omega, hp43.1, hp43.2, hp33⟩) (fun t ht => show va_P g.1 vwCl (wX g asked values43 bytes starts ends length parts texts lengths feet sorts nxt size sums oneSums otherSums byFeet kept over33 rcount rcust ssums ways nextWays reached nextReached found least greatest) t.heap by rw [ht]; exact hP) hS dX5_value_46
        · have c_24 := if_n c_24
          refine lv_iconst (v := ((-1 : Int32))) hx hb dX5_value_27 (by decide) ?_
          exact wr_iret (values, over) hx hb hr hlocks (Or.inl ⟨by omega, rfl, rfl, rfl⟩) (fun t ht => show va_P g.1 vwCl (wX g asked values bytes starts ends length parts texts lengths feet sorts nxt size sums oneSums otherSums byFeet kept over rcount rcust ssums ways nextWays reached nextReached found least greatest) t.heap by rw [ht]; exact hP) hS dX5_value_28
theorem iw_X5_worth_X5 : ∀ w ∈ u_ws RX5 TX5 6, w ∈ wsX5_worth := by decide +kernel
theorem fl_X5_worth_10 : Cond.fieldLink RX5 10 (TX5 0).1 (TX5 0).2.1 (TX5 0).2.2.1 ∈ wsX5_worth := by decide +kernel
theorem fl_X5_worth_48 : Cond.fieldLink RX5 48 (TX5 5).1 (TX5 5).2.1 (TX5 5).2.2.1 ∈ wsX5_worth := by decide +kernel
set_option maxHeartbeats 200000 in
set_option maxRecDepth 100000 in
theorem c_X5_worth (l : Launch) {g : GW} {asked : Int64} {values : Nat → Int32} {bytes : Nat → Int32} {starts : Nat → Int32} {ends : Nat → Int32} {length : Int32} {parts : Int32} {texts : Nat → Int32} {lengths : Nat → Int32} {feet : Nat → Int32} {sorts : Nat → Int32} {nxt : Nat → Int32} {size : Int32} {sums : Nat → Int32} {oneSums : Nat → Int32} {otherSums : Nat → Int32} {byFeet : Nat → Int64} {kept : Nat → Int64} {over : Int32} {rcount : Int32} {rcust : Int32} {ssums : Nat → Int32} {ways : Nat → Int64} {nextWays : Nat → Int64} {reached : Nat → Int64} {nextReached : Nat → Int64} {found : Int32} {least : Int32} {greatest : Int32} {sz : Nat} (counting : Int32) (custom : Int32) (letter : Int32) (ahead : Int32)  (hd : dW 25 g.2.2) : Met l yX5_worth wsX5_worth ({ frames := 3, cells := 0, slots := 0, locals := 64 }) (va_Pc ([.ref (g.2.2 0), .int (counting), .int (custom), .int (letter), .int (ahead)]) (fun U => (qW g (wX g asked values bytes starts ends length parts texts lengths feet sorts nxt size sums oneSums otherSums byFeet kept over rcount rcust ssums ways nextWays reached nextReached found least greatest) sz) U ∧ stS "ASKED_BY_COUNTING" 3 tabA U)) (va_Qi (fun (r : Int32) (z : Int64) => (¬ wok counting custom letter ahead ∧ r = (-1 : Int32) ∧ z = asked) ∨ (wok counting custom letter ahead ∧ r = wv values (tn counting) (tn custom) letter ahead ∧ z = asked + lN (alt (tn counting)))) (fun (z : Int64) (t : State) => va_P g.1 vwCl (wX g z values bytes starts ends length parts texts lengths feet sorts nxt size sums oneSums otherSums byFeet kept over rcount rcust ssums ways nextWays reached nextReached found least greatest) t.heap) (aW 25 g.2.2 sz)) 0 0 (aW 25 g.2.2 sz) := by
  refine Met.ofW (cc := cX5_worth) (maxL := 5) (ret := (some .int)) (by decide) rfl ?_
  intro p e s m args below meth c s₁ B hml hv
  obtain ⟨hv0, hv, hst9⟩ := hv
  have hv := And.intro hv0 hv
  obtain ⟨t9, hZ, hT⟩ := id hst9
  obtain ⟨rfl, hsz9, hP, hK, hN⟩ := hv
  subst hsz9
  have hx := B.exec
  have hb := B.bytes
  have hr := B.returns
  have hts := atoms_spec (ws := wsX5_worth) B.pre
  have hown : s.vm.findClass RX5 = some m.cls := findClass_of_methodNamed B.named
  have hlocks := B.notSynchronized
  have hS : va_S (aW 25 g.2.2 s.heap.size) s.heap s.heap [] := va_S.rf
  have hl := lv_entry ([.ref (g.2.2 0), .int (counting), .int (custom), .int (letter), .int (ahead)]) (n := 5) (Nat.le_of_ble_eq_true rfl)
  rw [lg_entry_eq]
  generalize (lg_sl ([.ref (g.2.2 0), .int (counting), .int (custom), .int (letter), .int (ahead)]) ++ List.replicate (5 - (lg_sl ([.ref (g.2.2 0), .int (counting), .int (custom), .int (letter), .int (ahead)])).length) Slot.unset).toArray = ls at hl ⊢
  have hl : lv_has ls 5 [(0, .ref (g.2.2 0)), (1, .int (counting)), (2, .int (custom)), (3, .int (letter)), (4, .int (ahead))] := hl
  refine lv_iload_n hx hb dX5_worth_0 rfl (lv_at hl 1 rfl) ?_
  refine lv_iload_n hx hb dX5_worth_1 rfl (lv_at hl 2 rfl) ?_
  refine ro_call (va_runS (As := [.int (counting), .int (custom)]) (rest := []) ⟨hx, hb, hml, hown, hts⟩ (c_X5_isCustomary l (counting) (custom)) (va_cwS 2 hts gX5_worth_X5_isCustomary rfl rfl rfl (by decide +kernel) ⟨Nat.le_of_ble_eq_true rfl, Nat.le_of_ble_eq_true rfl⟩) pre_0 rfl rfl hl.1 rfl (lv_room (Nat.le_of_ble_eq_true rfl)) dX5_worth_2 ⟨Nat.zero_le _, Nat.zero_le _⟩) ?_
  refine lv_if_eq (tgt := 29) hx hb dX5_worth_5 (by decide) (fun c_5 => ?_) (fun c_5 => ?_)
  · have c_5 := if_n c_5
    refine lv_iconst (v := ((-1 : Int32))) hx hb dX5_worth_29 (by decide) ?_
    exact wr_iret (asked) hx hb hr hlocks (Or.inl ⟨by omega, rfl, rfl⟩) (fun t ht => show va_P g.1 vwCl (wX g asked values bytes starts ends length parts texts lengths feet sorts nxt size sums oneSums otherSums byFeet kept over rcount rcust ssums ways nextWays reached nextReached found least greatest) t.heap by rw [ht]; exact hP) hS dX5_worth_30
  · have c_5 := if_p c_5
    refine lv_iload_n hx hb dX5_worth_8 rfl (lv_at hl 3 rfl) ?_
    refine lv_sipush (v := (nI (256))) hx hb dX5_worth_9 (by decide) ?_
    refine ro_call (va_runS (As := [.int (letter), .int (nI (256))]) (rest := []) ⟨hx, hb, hml, hown, hts⟩ (c_X5_isWithin l (letter) (256) (by decide)) (va_cwS 2 hts gX5_worth_X5_isWithin rfl rfl rfl (by decide +kernel) ⟨Nat.le_of_ble_eq_true rfl, Nat.le_of_ble_eq_true rfl⟩) pre_0 rfl rfl hl.1 rfl (lv_room (Nat.le_of_ble_eq_true rfl)) dX5_worth_12 ⟨Nat.zero_le _, Nat.zero_le _⟩) ?_
    refine lv_if_eq (tgt := 29) hx hb dX5_worth_15 (by decide) (fun c_15 => ?_) (fun c_15 => ?_)
    · have c_15 := if_n c_15
      refine lv_iconst (v := ((-1 : Int32))) hx hb dX5_worth_29 (by decide) ?_
      exact wr_iret (asked) hx hb hr hlocks (Or.inl ⟨by omega, rfl, rfl⟩) (fun t ht => show va_P g.1 vwCl (wX g asked values bytes starts ends length parts texts lengths feet sorts nxt size sums oneSums otherSums byFeet kept over rcount rcust ssums ways nextWays reached nextReached found least greatest) t.heap by rw [ht]; exact hP) hS dX5_worth_30
    · have c_15 := if_p c_15
      refine lv_iload hx hb dX5_worth_18 (lv_at hl 4 rfl) ?_
      refine lv_sipush (v := (nI (256))) hx hb dX5_worth_20 (by decide) ?_
      refine ro_call (va_runS (As := [.int (ahead), .int (nI (256))]) (rest := []) ⟨hx, hb, hml, hown, hts⟩ (c_X5_isWithin l (ahead) (256) (by decide)) (va_cwS 2 hts gX5_worth_X5_isWithin rfl rfl rfl (by decide +kernel) ⟨Nat.le_of_ble_eq_true rfl, Nat.le_of_ble_eq_true rfl⟩) pre_0 rfl rfl hl.1 rfl (lv_room (Nat.le_of_ble_eq_true rfl)) dX5_worth_23 ⟨Nat.zero_le _, Nat.zero_le _⟩) ?_
      refine lv_if_ne (tgt := 31) hx hb dX5_worth_26 (by decide) (fun c_26 => ?_) (fun c_26 => ?_)
      · have c_26 := if_p c_26
        obtain ⟨⟨h51, h52⟩, h53, h54⟩ := c_5
        obtain ⟨n9, hn9, rfl⟩ := iN_of (b := 3) h51 h52
        obtain ⟨k9, hk9, rfl⟩ := iN_of (b := 4) h53 h54
        refine lv_aload_n hx hb dX5_worth_31 rfl (lv_at hl 0 rfl) ?_
        refine lv_dup hx hb dX5_worth_32 rfl ?_
        refine an_get (ci := 5) (v := .long (asked)) (C := RX5) (T := TX5) (N := 6) hx hb hts iw_X5_worth_X5 hown hK hP 0 rfl rfl 5 (by decide) (hts _ fl_X5_worth_48) rfl dX5_worth_33 ?_
        refine va_gets hx hb hZ va_S.rf hown (hts (.fieldLink RX5 70 "VerseYears" "ASKED_BY_COUNTING" "[I") (by decide +kernel)) (fun _ h => h) dX5_worth_36 ?_
        refine lv_iload_n hx hb dX5_worth_39 rfl (lv_at hl 1 rfl) ?_
        refine va_ti (v := .int (nI (alt (n9)))) hx hb hT va_S.rf (vp_in_nI (by omega) (by decide)) (by rw [nI_clamp (by omega)]; exact tabA_e (by omega)) dX5_worth_40 ?_
        refine lv_i2l (v := lN (alt (n9))) hx hb dX5_worth_41 (nI_l (alt_b _)) ?_
        refine lv_ladd hx hb dX5_worth_42 ?_
        refine an_put (ci := 5) (v := .long ((asked) + (lN (alt (n9))))) (ty := .long) (C := RX5) (T := TX5) (N := 6) (ws' := (wX g (((asked) + (lN (alt (n9))))) values bytes starts ends length parts texts lengths feet sorts nxt size sums oneSums otherSums byFeet kept over rcount rcust ssums ways nextWays reached nextReached found least greatest)) hx hb hts iw_X5_worth_X5 tyX5 tyX5_ok nmX5 hown hK hP (wX_D hd) hS 0 rfl rfl 5 (by decide) (hts _ fl_X5_worth_48) rfl (by decide +kernel) (rfl) (rfl) (Nat.le_of_ble_eq_true rfl) rfl dX5_worth_43 (fun H locs hP hS => ?_)
        refine lv_aload_n hx hb dX5_worth_46 rfl (lv_at hl 0 rfl) ?_
        refine an_get (ci := 5) (v := .ref (g.2.2 1)) (C := RX5) (T := TX5) (N := 6) hx hb hts iw_X5_worth_X5 hown hK hP 0 rfl rfl 0 (by decide) (hts _ fl_X5_worth_10) rfl dX5_worth_47 ?_
        refine lv_iload_n hx hb dX5_worth_50 rfl (lv_at hl 1 rfl) ?_
        refine lv_iload_n hx hb dX5_worth_51 rfl (lv_at hl 2 rfl) ?_
        refine lv_iload_n hx hb dX5_worth_52 rfl (lv_at hl 3 rfl) ?_
        refine lv_iload hx hb dX5_worth_53 (lv_at hl 4 rfl) ?_
        refine ro_call (va_runV (As := [.int (nI (n9)), .int (nI (k9)), .int (letter), .int (ahead)]) (rest := []) ⟨hx, hb, hml, hown, hts⟩ (c_X0_worthOf l (g := g) (asked := ((asked) + (lN (alt (n9))))) (values := values) (bytes := bytes) (starts := starts) (ends := ends) (length := length) (parts := parts) (texts := texts) (lengths := lengths) (feet := feet) (sorts := sorts) (nxt := nxt) (size := size) (sums := sums) (oneSums := oneSums) (otherSums := otherSums) (byFeet := byFeet) (kept := kept) (over := over) (rcount := rcount) (rcust := rcust) (ssums := ssums) (ways := ways) (nextWays := nextWays) (reached := reached) (nextReached := nextReached) (found := found) (least := least) (greatest := greatest) (n9) (k9) (letter) (ahead) hn9 hk9) (cwV 4 hts gX5_worth_X0_worthOf rfl rfl rfl (by decide +kernel) ⟨Nat.le_of_ble_eq_true rfl, Nat.le_of_ble_eq_true rfl⟩) (pre_V pW_bl (va_recv hK hP (ci := 0) (q0 := 1) rfl rfl) (fun U hU hW => pW_of hP hK hN hU hW)) rfl rfl hl.1 rfl (lv_room (Nat.le_of_ble_eq_true rfl)) dX5_worth_55 ⟨Nat.zero_le _, Nat.zero_le _⟩) ?_
        exact wr_iret (((asked) + (lN (alt (n9))))) hx hb hr hlocks (by rw [tn_nI (show n9 < 2 ^ 31 by omega), tn_nI (show k9 < 2 ^ 31 by omega)]; exact Or.inr ⟨by omega, rfl, rfl⟩) (fun t ht => show va_P g.1 vwCl (wX g (((asked) + (lN (alt (n9))))) values bytes starts ends length parts texts lengths feet sorts nxt size sums oneSums otherSums byFeet kept over rcount rcust ssums ways nextWays reached nextReached found least greatest) t.heap by rw [ht]; exact hP) hS dX5_worth_58
      · have c_26 := if_n c_26
        refine lv_iconst (v := ((-1 : Int32))) hx hb dX5_worth_29 (by decide) ?_
        exact wr_iret (asked) hx hb hr hlocks (Or.inl ⟨by omega, rfl, rfl⟩) (fun t ht => show va_P g.1 vwCl (wX g asked values bytes starts ends length parts texts lengths feet sorts nxt size sums oneSums otherSums byFeet kept over rcount rcust ssums ways nextWays reached nextReached found least greatest) t.heap by rw [ht]; exact hP) hS dX5_worth_30
theorem iw_X5_type_X1 : ∀ w ∈ u_ws RX1 TX1 5, w ∈ wsX5_type := by decide +kernel
theorem iw_X5_type_X5 : ∀ w ∈ u_ws RX5 TX5 6, w ∈ wsX5_type := by decide +kernel
theorem fl_X5_type_19 : Cond.fieldLink RX5 19 (TX5 1).1 (TX5 1).2.1 (TX5 1).2.2.1 ∈ wsX5_type := by decide +kernel
theorem fl_X5_type_82 : Cond.fieldLink RX5 82 (TX1 3).1 (TX1 3).2.1 (TX1 3).2.2.1 ∈ wsX5_type := by decide +kernel
set_option maxHeartbeats 200000 in
set_option maxRecDepth 100000 in
theorem c_X5_type (l : Launch) {g : GW} {asked : Int64} {values : Nat → Int32} {bytes : Nat → Int32} {starts : Nat → Int32} {ends : Nat → Int32} {L : Nat} {parts : Int32} {texts : Nat → Int32} {lengths : Nat → Int32} {feet : Nat → Int32} {sorts : Nat → Int32} {nxt : Nat → Int32} {size : Int32} {sums : Nat → Int32} {oneSums : Nat → Int32} {otherSums : Nat → Int32} {byFeet : Nat → Int64} {kept : Nat → Int64} {over : Int32} {rcount : Int32} {rcust : Int32} {ssums : Nat → Int32} {ways : Nat → Int64} {nextWays : Nat → Int64} {reached : Nat → Int64} {nextReached : Nat → Int64} {found : Int32} {least : Int32} {greatest : Int32} {sz : Nat} (v : Int64) (k : Int32) (hL2 : L ≤ 40) (hd : dW 25 g.2.2) : Met l yX5_type wsX5_type ({ frames := 3, cells := 0, slots := 0, locals := 64 }) (va_Pc ([.ref (g.2.2 0), .long (v), .int (k)]) (qW g (wX g asked values bytes starts ends (nI (L)) parts texts lengths feet sorts nxt size sums oneSums otherSums byFeet kept over rcount rcust ssums ways nextWays reached nextReached found least greatest) sz)) (va_Qi (fun (r : Int32) (z : (Nat → Int32) × (Nat → Int32) × (Nat → Int32) × Int32 × Int32) => (¬ okT v k ∧ r = (-1 : Int32) ∧ z.1 = bytes ∧ z.2.1 = starts ∧ z.2.2.1 = ends ∧ z.2.2.2.1 = nI L ∧ z.2.2.2.2 = parts) ∨ (okT v k ∧ 40 < L + tn k ∧ r = (-3 : Int32) ∧ z.1 = bytes ∧ z.2.1 = starts ∧ z.2.2.1 = ends ∧ z.2.2.2.1 = nI L ∧ z.2.2.2.2 = parts) ∨ (okT v k ∧ L + tn k ≤ 40 ∧ r = nI (L + tn k) ∧ z.1 = apb bytes L v (tn k) (tn k) ∧ z.2.2.2.1 = nI (L + tn k) ∧ z.2.2.2.2 = nI (pn (apb bytes L v (tn k) (tn k)) (L + tn k)) ∧ prow (apb bytes L v (tn k) (tn k)) (L + tn k) z.2.1 z.2.2.1)) (fun (z : (Nat → Int32) × (Nat → Int32) × (Nat → Int32) × Int32 × Int32) (t : State) => va_P g.1 vwCl (wX g asked values (z.1) (z.2.1) (z.2.2.1) (z.2.2.2.1) (z.2.2.2.2) texts lengths feet sorts nxt size sums oneSums otherSums byFeet kept over rcount rcust ssums ways nextWays reached nextReached found least greatest) t.heap) (aW 25 g.2.2 sz)) 0 0 (aW 25 g.2.2 sz) := by
  refine Met.ofW (cc := cX5_type) (maxL := 4) (ret := (some .int)) (by decide) rfl ?_
  intro p e s m args below meth c s₁ B hml hv
  obtain ⟨rfl, hsz9, hP, hK, hN⟩ := hv
  subst hsz9
  have hx := B.exec
  have hb := B.bytes
  have hr := B.returns
  have hts := atoms_spec (ws := wsX5_type) B.pre
  have hown : s.vm.findClass RX5 = some m.cls := findClass_of_methodNamed B.named
  have hlocks := B.notSynchronized
  have hS : va_S (aW 25 g.2.2 s.heap.size) s.heap s.heap [] := va_S.rf
  have hl := lv_entry ([.ref (g.2.2 0), .long (v), .int (k)]) (n := 4) (Nat.le_of_ble_eq_true rfl)
  rw [lg_entry_eq]
  generalize (lg_sl ([.ref (g.2.2 0), .long (v), .int (k)]) ++ List.replicate (4 - (lg_sl ([.ref (g.2.2 0), .long (v), .int (k)])).length) Slot.unset).toArray = ls at hl ⊢
  have hl : lv_has ls 4 [(0, .ref (g.2.2 0)), (1, .long (v)), (3, .int (k))] := hl
  refine lv_iload_n hx hb dX5_type_0 rfl (lv_at hl 2 rfl) ?_
  refine lv_iconst (v := (nI (1))) hx hb dX5_type_1 (by decide) ?_
  refine lv_icmp_lt (tgt := 19) hx hb dX5_type_2 (by decide) (fun c_2 => ?_) (fun c_2 => ?_)
  · have c_2 := (cv_lt_in (by omega)).mp c_2
    refine lv_iconst (v := ((-1 : Int32))) hx hb dX5_type_19 (by decide) ?_
    exact wr_iret (bytes, starts, ends, nI (L), parts) hx hb hr hlocks (Or.inl ⟨by first | exact fun q => absurd q.1 (by omega) | exact fun q => c_16 (fun j hj => q.2 j (by rw [hkn]; exact hj)), rfl, rfl, rfl, rfl, rfl, rfl⟩) (fun t ht => show va_P g.1 vwCl (wX g asked values bytes starts ends (nI (L)) parts texts lengths feet sorts nxt size sums oneSums otherSums byFeet kept over rcount rcust ssums ways nextWays reached nextReached found least greatest) t.heap by rw [ht]; exact hP) hS dX5_type_20
  · have c_2 := (not_congr (cv_lt_in (by omega))).mp c_2
    refine lv_iload_n hx hb dX5_type_5 rfl (lv_at hl 2 rfl) ?_
    refine lv_bipush (v := (nI (8))) hx hb dX5_type_6 (by decide) ?_
    refine lv_icmp_gt (tgt := 19) hx hb dX5_type_8 (by decide) (fun c_8 => ?_) (fun c_8 => ?_)
    · have c_8 := (cv_lt_ni (by omega)).mp c_8
      refine lv_iconst (v := ((-1 : Int32))) hx hb dX5_type_19 (by decide) ?_
      exact wr_iret (bytes, starts, ends, nI (L), parts) hx hb hr hlocks (Or.inl ⟨by first | exact fun q => absurd q.1 (by omega) | exact fun q => c_16 (fun j hj => q.2 j (by rw [hkn]; exact hj)), rfl, rfl, rfl, rfl, rfl, rfl⟩) (fun t ht => show va_P g.1 vwCl (wX g asked values bytes starts ends (nI (L)) parts texts lengths feet sorts nxt size sums oneSums otherSums byFeet kept over rcount rcust ssums ways nextWays reached nextReached found least greatest) t.heap by rw [ht]; exact hP) hS dX5_type_20
    · have c_8 := (not_congr (cv_lt_ni (by omega))).mp c_8
      obtain ⟨k0, hk0, rfl⟩ := iN_of (x := k) (b := 9) (by omega) (by omega)
      have hkt : (nI k0).toInt = (k0 : Int) := nI_toInt (by omega)
      have hkn : tn (nI k0) = k0 := tn_nI (by omega)
      refine lv_lload_n hx hb dX5_type_11 rfl (lv_at hl 1 rfl) ?_
      refine lv_iload_n hx hb dX5_type_12 rfl (lv_at hl 2 rfl) ?_
      refine ro_call (va_runS (As := [.long (v), .int (nI (k0))]) (rest := []) ⟨hx, hb, hml, hown, hts⟩ (c_X5_mayAllStand l (v) (k0) (by omega)) (va_cwS 2 hts gX5_type_X5_mayAllStand rfl rfl rfl (by decide +kernel) ⟨Nat.le_of_ble_eq_true rfl, Nat.le_of_ble_eq_true rfl⟩) pre_0 rfl rfl hl.1 rfl (lv_room (Nat.le_of_ble_eq_true rfl)) dX5_type_13 ⟨Nat.zero_le _, Nat.zero_le _⟩) ?_
      refine lv_if_ne (tgt := 21) hx hb dX5_type_16 (by decide) (fun c_16 => ?_) (fun c_16 => ?_)
      · have c_16 := if_p c_16
        refine lv_aload_n hx hb dX5_type_21 rfl (lv_at hl 0 rfl) ?_
        refine an_get (ci := 5) (v := .ref (g.2.2 3)) (C := RX5) (T := TX5) (N := 6) hx hb hts iw_X5_type_X5 hown hK hP 0 rfl rfl 1 (by decide) (hts _ fl_X5_type_19) rfl dX5_type_22 ?_
        refine an_get (ci := 1) (v := .int (nI (L))) (C := RX1) (T := TX1) (N := 5) hx hb hts iw_X5_type_X1 hown hK hP 3 rfl rfl 3 (by decide) (hts _ fl_X5_type_82) rfl dX5_type_25 ?_
        refine lv_iload_n hx hb dX5_type_28 rfl (lv_at hl 2 rfl) ?_
        refine ln_iadd hx hb dX5_type_29 ?_
        refine lv_bipush (v := (nI (40))) hx hb dX5_type_30 (by decide) ?_
        refine lv_icmp_le (tgt := 38) hx hb dX5_type_32 (by decide) (fun c_32 => ?_) (fun c_32 => ?_)
        · have c_32 := (cv_le_nn (by omega) (by omega)).mp c_32
          refine lv_aload_n hx hb dX5_type_38 rfl (lv_at hl 0 rfl) ?_
          refine an_get (ci := 5) (v := .ref (g.2.2 3)) (C := RX5) (T := TX5) (N := 6) hx hb hts iw_X5_type_X5 hown hK hP 0 rfl rfl 1 (by decide) (hts _ fl_X5_type_19) rfl dX5_type_39 ?_
          refine lv_lload_n hx hb dX5_type_42 rfl (lv_at hl 1 rfl) ?_
          refine lv_iload_n hx hb dX5_type_43 rfl (lv_at hl 2 rfl) ?_
          refine wr_callv (w := (fun (z : (Nat → Int32) × (Nat → Int32) × (Nat → Int32) × Int32 × Int32) => (wX g asked values (z.1) (z.2.1) (z.2.2.1) (z.2.2.2.1) (z.2.2.2.2) texts lengths feet sorts nxt size sums oneSums otherSums byFeet kept over rcount rcust ssums ways nextWays reached nextReached found least greatest))) (va_runV (As := [.long (v), .int (nI (k0))]) (rest := []) ⟨hx, hb, hml, hown, hts⟩ (c_X1_append l (g := g) (asked := asked) (values := values) (bytes := bytes) (starts := starts) (ends := ends) (L := L) (parts := parts) (texts := texts) (lengths := lengths) (feet := feet) (sorts := sorts) (nxt := nxt) (size := size) (sums := sums) (oneSums := oneSums) (otherSums := otherSums) (byFeet := byFeet) (kept := kept) (over := over) (rcount := rcount) (rcust := rcust) (ssums := ssums) (ways := ways) (nextWays := nextWays) (reached := reached) (nextReached := nextReached) (found := found) (least := least) (greatest := greatest) (sz := _) (v) (k0) (by omega) (by omega) (by omega) hd) (cwV 2 hts gX5_type_X1_append rfl rfl rfl (by decide +kernel) ⟨Nat.le_of_ble_eq_true rfl, Nat.le_of_ble_eq_true rfl⟩) (pre_V qW_bl (va_recv hK hP (ci := 1) (q0 := 3) rfl rfl) (fun U hU hW => ⟨by rw [hU], pW_of hP hK hN hU hW⟩)) rfl rfl hl.1 rfl (lv_room (Nat.le_of_ble_eq_true rfl)) dX5_type_44 ⟨Nat.zero_le _, Nat.zero_le _⟩) hS (fun z44 H locs hp44 hP hS => ?_)
          obtain ⟨bytes44, starts44, ends44, length44, parts44⟩ := z44
          try dsimp only at hp44
          have hP : va_P g.1 vwCl (wX g asked values bytes44 starts44 ends44 length44 parts44 texts lengths feet sorts nxt size sums oneSums otherSums byFeet kept over rcount rcust ssums ways nextWays reached nextReached found least greatest) H := hP
          obtain ⟨hq1, hq2, hq3, hq4⟩ := hp44
          subst hq2
          subst hq3
          subst hq1
          refine lv_aload_n hx hb dX5_type_47 rfl (lv_at hl 0 rfl) ?_
          refine an_get (ci := 5) (v := .ref (g.2.2 3)) (C := RX5) (T := TX5) (N := 6) hx hb hts iw_X5_type_X5 hown hK hP 0 rfl rfl 1 (by decide) (hts _ fl_X5_type_19) rfl dX5_type_48 ?_
          refine an_get (ci := 1) (v := .int (nI (L + k0))) (C := RX1) (T := TX1) (N := 5) hx hb hts iw_X5_type_X1 hown hK hP 3 rfl rfl 3 (by decide) (hts _ fl_X5_type_82) rfl dX5_type_51 ?_
          exact wr_iret (apb bytes L v k0 k0, starts44, ends44, nI (L + k0), nI (pn (apb bytes L v k0 k0) (L + k0))) hx hb hr hlocks (by rw [hkn]; exact Or.inr (Or.inr ⟨⟨by omega, by rw [hkn]; exact c_16⟩, by omega, rfl, rfl, rfl, rfl, hq4⟩)) (fun t ht => show va_P g.1 vwCl (wX g asked values (apb bytes L v k0 k0) starts44 ends44 (nI (L + k0)) (nI (pn (apb bytes L v k0 k0) (L + k0))) texts lengths feet sorts nxt size sums oneSums otherSums byFeet kept over rcount rcust ssums ways nextWays reached nextReached found least greatest) t.heap by rw [ht]; exact hP) hS dX5_type_54
        · have c_32 := (not_congr (cv_le_nn (by omega) (by omega))).mp c_32
          refine lv_bipush (v := ((-3 : Int32))) hx hb dX5_type_35 (by decide) ?_
          exact wr_iret (bytes, starts, ends, nI (L), parts) hx hb hr hlocks (by rw [hkn]; exact Or.inr (Or.inl ⟨⟨by omega, by rw [hkn]; exact c_16⟩, by omega, rfl, rfl, rfl, rfl, rfl, rfl⟩)) (fun t ht => show va_P g.1 vwCl (wX g asked values bytes starts ends (nI (L)) parts texts lengths feet sorts nxt size sums oneSums otherSums byFeet kept over rcount rcust ssums ways nextWays reached nextReached found least greatest) t.heap by rw [ht]; exact hP) hS dX5_type_37
      · have c_16 := if_n c_16
        refine lv_iconst (v := ((-1 : Int32))) hx hb dX5_type_19 (by decide) ?_
        exact wr_iret (bytes, starts, ends, nI (L), parts) hx hb hr hlocks (Or.inl ⟨by first | exact fun q => absurd q.1 (by omega) | exact fun q => c_16 (fun j hj => q.2 j (by rw [hkn]; exact hj)), rfl, rfl, rfl, rfl, rfl, rfl⟩) (fun t ht => show va_P g.1 vwCl (wX g asked values bytes starts ends (nI (L)) parts texts lengths feet sorts nxt size sums oneSums otherSums byFeet kept over rcount rcust ssums ways nextWays reached nextReached found least greatest) t.heap by rw [ht]; exact hP) hS dX5_type_20
theorem iw_X5_clear_X1 : ∀ w ∈ u_ws RX1 TX1 5, w ∈ wsX5_clear := by decide +kernel
theorem iw_X5_clear_X5 : ∀ w ∈ u_ws RX5 TX5 6, w ∈ wsX5_clear := by decide +kernel
theorem fl_X5_clear_19 : Cond.fieldLink RX5 19 (TX5 1).1 (TX5 1).2.1 (TX5 1).2.2.1 ∈ wsX5_clear := by decide +kernel
theorem fl_X5_clear_82 : Cond.fieldLink RX5 82 (TX1 3).1 (TX1 3).2.1 (TX1 3).2.2.1 ∈ wsX5_clear := by decide +kernel
set_option maxHeartbeats 200000 in
set_option maxRecDepth 100000 in
theorem c_X5_clear (l : Launch) {g : GW} {asked : Int64} {values : Nat → Int32} {bytes : Nat → Int32} {starts : Nat → Int32} {ends : Nat → Int32} {L : Nat} {parts : Int32} {texts : Nat → Int32} {lengths : Nat → Int32} {feet : Nat → Int32} {sorts : Nat → Int32} {nxt : Nat → Int32} {size : Int32} {sums : Nat → Int32} {oneSums : Nat → Int32} {otherSums : Nat → Int32} {byFeet : Nat → Int64} {kept : Nat → Int64} {over : Int32} {rcount : Int32} {rcust : Int32} {ssums : Nat → Int32} {ways : Nat → Int64} {nextWays : Nat → Int64} {reached : Nat → Int64} {nextReached : Nat → Int64} {found : Int32} {least : Int32} {greatest : Int32} {sz : Nat}  (hd : dW 25 g.2.2) : Met l yX5_clear wsX5_clear ({ frames := 1, cells := 0, slots := 0, locals := 20 }) (va_Pc ([.ref (g.2.2 0)]) (qW g (wX g asked values bytes starts ends (nI (L)) parts texts lengths feet sorts nxt size sums oneSums otherSums byFeet kept over rcount rcust ssums ways nextWays reached nextReached found least greatest) sz)) (va_Qi (fun (r : Int32) (z : Int32 × Int32) => r = nI L ∧ z.1 = nI 0 ∧ z.2 = nI 0) (fun (z : Int32 × Int32) (t : State) => va_P g.1 vwCl (wX g asked values bytes starts ends (z.1) (z.2) texts lengths feet sorts nxt size sums oneSums otherSums byFeet kept over rcount rcust ssums ways nextWays reached nextReached found least greatest) t.heap) (aW 25 g.2.2 sz)) 0 0 (aW 25 g.2.2 sz) := by
  refine Met.ofW (cc := cX5_clear) (maxL := 2) (ret := (some .int)) (by decide) rfl ?_
  intro p e s m args below meth c s₁ B hml hv
  obtain ⟨rfl, hsz9, hP, hK, hN⟩ := hv
  subst hsz9
  have hx := B.exec
  have hb := B.bytes
  have hr := B.returns
  have hts := atoms_spec (ws := wsX5_clear) B.pre
  have hown : s.vm.findClass RX5 = some m.cls := findClass_of_methodNamed B.named
  have hlocks := B.notSynchronized
  have hS : va_S (aW 25 g.2.2 s.heap.size) s.heap s.heap [] := va_S.rf
  have hl := lv_entry ([.ref (g.2.2 0)]) (n := 2) (Nat.le_of_ble_eq_true rfl)
  rw [lg_entry_eq]
  generalize (lg_sl ([.ref (g.2.2 0)]) ++ List.replicate (2 - (lg_sl ([.ref (g.2.2 0)])).length) Slot.unset).toArray = ls at hl ⊢
  have hl : lv_has ls 2 [(0, .ref (g.2.2 0))] := hl
  refine lv_aload_n hx hb dX5_clear_0 rfl (lv_at hl 0 rfl) ?_
  refine an_get (ci := 5) (v := .ref (g.2.2 3)) (C := RX5) (T := TX5) (N := 6) hx hb hts iw_X5_clear_X5 hown hK hP 0 rfl rfl 1 (by decide) (hts _ fl_X5_clear_19) rfl dX5_clear_1 ?_
  refine an_get (ci := 1) (v := .int (nI (L))) (C := RX1) (T := TX1) (N := 5) hx hb hts iw_X5_clear_X1 hown hK hP 3 rfl rfl 3 (by decide) (hts _ fl_X5_clear_82) rfl dX5_clear_4 ?_
  refine lv_istore_n (lv' := [(1, .int (nI (L))), (0, .ref (g.2.2 0))]) hx hb dX5_clear_7 rfl hl (by decide) rfl (fun ls hl => ?_)
  refine lv_aload_n hx hb dX5_clear_8 rfl (lv_at hl 1 rfl) ?_
  refine an_get (ci := 5) (v := .ref (g.2.2 3)) (C := RX5) (T := TX5) (N := 6) hx hb hts iw_X5_clear_X5 hown hK hP 0 rfl rfl 1 (by decide) (hts _ fl_X5_clear_19) rfl dX5_clear_9 ?_
  refine wr_callv (w := (fun (z : Int32 × Int32) => (wX g asked values bytes starts ends (z.1) (z.2) texts lengths feet sorts nxt size sums oneSums otherSums byFeet kept over rcount rcust ssums ways nextWays reached nextReached found least greatest))) (va_runV (As := []) (rest := []) ⟨hx, hb, hml, hown, hts⟩ (c_X1_wipe l (g := g) (asked := asked) (values := values) (bytes := bytes) (starts := starts) (ends := ends) (length := nI (L)) (parts := parts) (texts := texts) (lengths := lengths) (feet := feet) (sorts := sorts) (nxt := nxt) (size := size) (sums := sums) (oneSums := oneSums) (otherSums := otherSums) (byFeet := byFeet) (kept := kept) (over := over) (rcount := rcount) (rcust := rcust) (ssums := ssums) (ways := ways) (nextWays := nextWays) (reached := reached) (nextReached := nextReached) (found := found) (least := least) (greatest := greatest) (sz := _)  hd) (cwV 0 hts gX5_clear_X1_wipe rfl rfl rfl (by decide +kernel) ⟨Nat.le_of_ble_eq_true rfl, Nat.le_of_ble_eq_true rfl⟩) (pre_V qW_bl (va_recv hK hP (ci := 1) (q0 := 3) rfl rfl) (fun U hU hW => ⟨by rw [hU], pW_of hP hK hN hU hW⟩)) rfl rfl hl.1 rfl (lv_room (Nat.le_of_ble_eq_true rfl)) dX5_clear_12 ⟨Nat.zero_le _, Nat.zero_le _⟩) hS (fun z12 H locs hp12 hP hS => ?_)
  obtain ⟨length12, parts12⟩ := z12
  try dsimp only at hp12
  have hP : va_P g.1 vwCl (wX g asked values bytes starts ends length12 parts12 texts lengths feet sorts nxt size sums oneSums otherSums byFeet kept over rcount rcust ssums ways nextWays reached nextReached found least greatest) H := hP
  refine lv_iload_n hx hb dX5_clear_15 rfl (lv_at hl 0 rfl) ?_
  exact wr_iret (length12, parts12) hx hb hr hlocks (⟨rfl, hp12⟩) (fun t ht => show va_P g.1 vwCl (wX g asked values bytes starts ends length12 parts12 texts lengths feet sorts nxt size sums oneSums otherSums byFeet kept over rcount rcust ssums ways nextWays reached nextReached found least greatest) t.heap by rw [ht]; exact hP) hS dX5_clear_16
set_option maxHeartbeats 200000 in
set_option maxRecDepth 100000 in
theorem c_X5_sum (l : Launch) {g : GW} {asked : Int64} {values : Nat → Int32} {bytes : Nat → Int32} {starts : Nat → Int32} {ends : Nat → Int32} {L : Nat} {parts : Int32} {texts : Nat → Int32} {lengths : Nat → Int32} {feet : Nat → Int32} {sorts : Nat → Int32} {nxt : Nat → Int32} {size : Int32} {sums : Nat → Int32} {oneSums : Nat → Int32} {otherSums : Nat → Int32} {byFeet : Nat → Int64} {kept : Nat → Int64} {over : Int32} {rcount : Int32} {rcust : Int32} {ssums : Nat → Int32} {ways : Nat → Int64} {nextWays : Nat → Int64} {reached : Nat → Int64} {nextReached : Nat → Int64} {found : Int32} {least : Int32} {greatest : Int32} (counting : Int32) (custom : Int32) (hL2 : L ≤ 40) : Met l yX5_sum wsX5_sum ({ frames := 5, cells := 0, slots := 0, locals := 114 }) (va_Pc ([.ref (g.2.2 0), .int (counting), .int (custom)]) (pW g (wX g asked values bytes starts ends (nI (L)) parts texts lengths feet sorts nxt size sums oneSums otherSums byFeet kept over rcount rcust ssums ways nextWays reached nextReached found least greatest))) (ro_Q (.int (aSum values bytes L counting custom))) 0 0 (fun _ => False) := by
  refine Met.ofW (cc := cX5_sum) (maxL := 3) (ret := (some .int)) (by decide) rfl ?_
  intro p e s m args below meth c s₁ B hml hv
  obtain ⟨rfl, hP, hK, hN⟩ := hv
  have hx := B.exec
  have hb := B.bytes
  have hr := B.returns
  have hts := atoms_spec (ws := wsX5_sum) B.pre
  have hown : s.vm.findClass RX5 = some m.cls := findClass_of_methodNamed B.named
  have hlocks := B.notSynchronized
  have hl := lv_entry ([.ref (g.2.2 0), .int (counting), .int (custom)]) (n := 3) (Nat.le_of_ble_eq_true rfl)
  rw [lg_entry_eq]
  generalize (lg_sl ([.ref (g.2.2 0), .int (counting), .int (custom)]) ++ List.replicate (3 - (lg_sl ([.ref (g.2.2 0), .int (counting), .int (custom)])).length) Slot.unset).toArray = ls at hl ⊢
  have hl : lv_has ls 3 [(0, .ref (g.2.2 0)), (1, .int (counting)), (2, .int (custom))] := hl
  refine lv_iload_n hx hb dX5_sum_0 rfl (lv_at hl 1 rfl) ?_
  refine lv_iload_n hx hb dX5_sum_1 rfl (lv_at hl 2 rfl) ?_
  refine ro_call (va_runS (As := [.int (counting), .int (custom)]) (rest := []) ⟨hx, hb, hml, hown, hts⟩ (c_X5_isCustomary l (counting) (custom)) (va_cwS 2 hts gX5_sum_X5_isCustomary rfl rfl rfl (by decide +kernel) ⟨Nat.le_of_ble_eq_true rfl, Nat.le_of_ble_eq_true rfl⟩) pre_0 rfl rfl hl.1 rfl (lv_room (Nat.le_of_ble_eq_true rfl)) dX5_sum_2 ⟨Nat.zero_le _, Nat.zero_le _⟩) ?_
  refine lv_if_ne (tgt := 10) hx hb dX5_sum_5 (by decide) (fun c_5 => ?_) (fun c_5 => ?_)
  · have c_5 := if_p c_5
    have c5 := c_5
    obtain ⟨⟨h51, h52⟩, h53, h54⟩ := c_5
    obtain ⟨n9, hn9, rfl⟩ := iN_of (b := 3) h51 h52
    obtain ⟨k9, hk9, rfl⟩ := iN_of (b := 4) h53 h54
    refine lv_aload_n hx hb dX5_sum_10 rfl (lv_at hl 0 rfl) ?_
    refine lv_iload_n hx hb dX5_sum_11 rfl (lv_at hl 1 rfl) ?_
    refine lv_iload_n hx hb dX5_sum_12 rfl (lv_at hl 2 rfl) ?_
    refine ro_call (va_runV (As := [.int (nI (n9)), .int (nI (k9))]) (rest := []) ⟨hx, hb, hml, hown, hts⟩ (c_X5_sumOfDraft l (g := g) (asked := asked) (values := values) (bytes := bytes) (starts := starts) (ends := ends) (L := L) (parts := parts) (texts := texts) (lengths := lengths) (feet := feet) (sorts := sorts) (nxt := nxt) (size := size) (sums := sums) (oneSums := oneSums) (otherSums := otherSums) (byFeet := byFeet) (kept := kept) (over := over) (rcount := rcount) (rcust := rcust) (ssums := ssums) (ways := ways) (nextWays := nextWays) (reached := reached) (nextReached := nextReached) (found := found) (least := least) (greatest := greatest) (n9) (k9) hn9 hk9 hL2) (cwV 2 hts gX5_sum_X5_sumOfDraft rfl rfl rfl (by decide +kernel) ⟨Nat.le_of_ble_eq_true rfl, Nat.le_of_ble_eq_true rfl⟩) (pre_V pW_bl (va_recv hK hP (ci := 5) (q0 := 0) rfl rfl) (fun U hU hW => pW_of hP hK hN hU hW)) rfl rfl hl.1 rfl (lv_room (Nat.le_of_ble_eq_true rfl)) dX5_sum_13 ⟨Nat.zero_le _, Nat.zero_le _⟩) ?_
    exact ro_iret hx hb hr hlocks (by unfold aSum; rw [if_pos c5, tn_nI (show n9 < 2 ^ 31 by omega), tn_nI (show k9 < 2 ^ 31 by omega)]) dX5_sum_16
  · have c_5 := if_n c_5
    refine lv_iconst (v := ((-1 : Int32))) hx hb dX5_sum_8 (by decide) ?_
    exact ro_iret hx hb hr hlocks (by unfold aSum; rw [if_neg c_5]) dX5_sum_9
theorem iw_X5_vocable_X4 : ∀ w ∈ u_ws RX4 TX4 6, w ∈ wsX5_vocable := by decide +kernel
theorem iw_X5_vocable_X5 : ∀ w ∈ u_ws RX5 TX5 6, w ∈ wsX5_vocable := by decide +kernel
theorem fl_X5_vocable_19 : Cond.fieldLink RX5 19 (TX5 1).1 (TX5 1).2.1 (TX5 1).2.2.1 ∈ wsX5_vocable := by decide +kernel
theorem fl_X5_vocable_26 : Cond.fieldLink RX5 26 (TX5 2).1 (TX5 2).2.1 (TX5 2).2.2.1 ∈ wsX5_vocable := by decide +kernel
theorem fl_X5_vocable_35 : Cond.fieldLink RX5 35 (TX5 3).1 (TX5 3).2.1 (TX5 3).2.2.1 ∈ wsX5_vocable := by decide +kernel
theorem fl_X5_vocable_101 : Cond.fieldLink RX5 101 (TX4 5).1 (TX4 5).2.1 (TX4 5).2.2.1 ∈ wsX5_vocable := by decide +kernel
set_option maxHeartbeats 200000 in
set_option maxRecDepth 100000 in
theorem c_X5_vocable (l : Launch) {g : GW} {asked : Int64} {values : Nat → Int32} {bytes : Nat → Int32} {starts : Nat → Int32} {ends : Nat → Int32} {L : Nat} {parts : Int32} {texts : Nat → Int32} {lengths : Nat → Int32} {feet : Nat → Int32} {sorts : Nat → Int32} {nxt : Nat → Int32} {nv : Nat} {sums : Nat → Int32} {oneSums : Nat → Int32} {otherSums : Nat → Int32} {byFeet : Nat → Int64} {kept : Nat → Int64} {over : Int32} {rcount : Int32} {rcust : Int32} {ssums : Nat → Int32} {ways : Nat → Int64} {nextWays : Nat → Int64} {reached : Nat → Int64} {nextReached : Nat → Int64} {found : Int32} {least : Int32} {greatest : Int32} {sz : Nat} (itsFeet : Int32) (itsSort : Int32) (hL2 : L ≤ 40) (hnv : nv ≤ 10) (hd : dW 25 g.2.2) : Met l yX5_vocable wsX5_vocable ({ frames := 3, cells := 0, slots := 0, locals := 83 }) (va_Pc ([.ref (g.2.2 0), .int (itsFeet), .int (itsSort)]) (qW g (wX g asked values bytes starts ends (nI (L)) parts texts lengths feet sorts nxt (nI (nv)) sums oneSums otherSums byFeet kept over rcount rcust ssums ways nextWays reached nextReached found least greatest) sz)) (va_Qi (fun (r : Int32) (z : (Nat → Int32) × (Nat → Int32) × (Nat → Int32) × (Nat → Int32) × Int32 × Int32 × Int32 × Int32) => (¬ vcok itsFeet itsSort ∧ r = (-1 : Int32) ∧ z.1 = texts ∧ z.2.1 = lengths ∧ z.2.2.1 = feet ∧ z.2.2.2.1 = sorts ∧ z.2.2.2.2.1 = nI nv ∧ z.2.2.2.2.2.1 = nI L ∧ z.2.2.2.2.2.2.1 = parts ∧ z.2.2.2.2.2.2.2 = over) ∨ (vcok itsFeet itsSort ∧ ¬ wordy bytes L ∧ r = (-2 : Int32) ∧ z.1 = texts ∧ z.2.1 = lengths ∧ z.2.2.1 = feet ∧ z.2.2.2.1 = sorts ∧ z.2.2.2.2.1 = nI nv ∧ z.2.2.2.2.2.1 = nI L ∧ z.2.2.2.2.2.2.1 = parts ∧ z.2.2.2.2.2.2.2 = over) ∨ (vcok itsFeet itsSort ∧ wordy bytes L ∧ nv = 10 ∧ r = (-3 : Int32) ∧ z.1 = texts ∧ z.2.1 = lengths ∧ z.2.2.1 = feet ∧ z.2.2.2.1 = sorts ∧ z.2.2.2.2.1 = nI nv ∧ z.2.2.2.2.2.1 = nI L ∧ z.2.2.2.2.2.2.1 = parts ∧ z.2.2.2.2.2.2.2 = over) ∨ (vcok itsFeet itsSort ∧ wordy bytes L ∧ nv < 10 ∧ r = nI nv ∧ z.1 = va_cpy bytes texts 0 (nv * 8) L ∧ z.2.1 = upd lengths nv (nI L) ∧ z.2.2.1 = upd feet nv itsFeet ∧ z.2.2.2.1 = upd sorts nv itsSort ∧ z.2.2.2.2.1 = nI (nv + 1) ∧ z.2.2.2.2.2.1 = nI 0 ∧ z.2.2.2.2.2.2.1 = nI 0 ∧ z.2.2.2.2.2.2.2 = nI 1)) (fun (z : (Nat → Int32) × (Nat → Int32) × (Nat → Int32) × (Nat → Int32) × Int32 × Int32 × Int32 × Int32) (t : State) => va_P g.1 vwCl (wX g asked values bytes starts ends (z.2.2.2.2.2.1) (z.2.2.2.2.2.2.1) (z.1) (z.2.1) (z.2.2.1) (z.2.2.2.1) nxt (z.2.2.2.2.1) sums oneSums otherSums byFeet kept (z.2.2.2.2.2.2.2) rcount rcust ssums ways nextWays reached nextReached found least greatest) t.heap) (aW 25 g.2.2 sz)) 0 0 (aW 25 g.2.2 sz) := by
  refine Met.ofW (cc := cX5_vocable) (maxL := 4) (ret := (some .int)) (by decide) rfl ?_
  intro p e s m args below meth c s₁ B hml hv
  obtain ⟨rfl, hsz9, hP, hK, hN⟩ := hv
  subst hsz9
  have hx := B.exec
  have hb := B.bytes
  have hr := B.returns
  have hts := atoms_spec (ws := wsX5_vocable) B.pre
  have hown : s.vm.findClass RX5 = some m.cls := findClass_of_methodNamed B.named
  have hlocks := B.notSynchronized
  have hS : va_S (aW 25 g.2.2 s.heap.size) s.heap s.heap [] := va_S.rf
  have hl := lv_entry ([.ref (g.2.2 0), .int (itsFeet), .int (itsSort)]) (n := 4) (Nat.le_of_ble_eq_true rfl)
  rw [lg_entry_eq]
  generalize (lg_sl ([.ref (g.2.2 0), .int (itsFeet), .int (itsSort)]) ++ List.replicate (4 - (lg_sl ([.ref (g.2.2 0), .int (itsFeet), .int (itsSort)])).length) Slot.unset).toArray = ls at hl ⊢
  have hl : lv_has ls 4 [(0, .ref (g.2.2 0)), (1, .int (itsFeet)), (2, .int (itsSort))] := hl
  refine lv_iload_n hx hb dX5_vocable_0 rfl (lv_at hl 1 rfl) ?_
  refine lv_iconst (v := (nI (1))) hx hb dX5_vocable_1 (by decide) ?_
  refine lv_icmp_lt (tgt := 18) hx hb dX5_vocable_2 (by decide) (fun c_2 => ?_) (fun c_2 => ?_)
  · have c_2 := (cv_lt_in (by omega)).mp c_2
    refine lv_iconst (v := ((-1 : Int32))) hx hb dX5_vocable_18 (by decide) ?_
    exact wr_iret (texts, lengths, feet, sorts, nI (nv), nI (L), parts, over) hx hb hr hlocks (Or.inl ⟨by omega, rfl, rfl, rfl, rfl, rfl, rfl, rfl, rfl, rfl⟩) (fun t ht => show va_P g.1 vwCl (wX g asked values bytes starts ends (nI (L)) parts texts lengths feet sorts nxt (nI (nv)) sums oneSums otherSums byFeet kept over rcount rcust ssums ways nextWays reached nextReached found least greatest) t.heap by rw [ht]; exact hP) hS dX5_vocable_19
  · have c_2 := (not_congr (cv_lt_in (by omega))).mp c_2
    refine lv_iload_n hx hb dX5_vocable_5 rfl (lv_at hl 1 rfl) ?_
    refine lv_iconst (v := (nI (3))) hx hb dX5_vocable_6 (by decide) ?_
    refine lv_icmp_gt (tgt := 18) hx hb dX5_vocable_7 (by decide) (fun c_7 => ?_) (fun c_7 => ?_)
    · have c_7 := (cv_lt_ni (by omega)).mp c_7
      refine lv_iconst (v := ((-1 : Int32))) hx hb dX5_vocable_18 (by decide) ?_
      exact wr_iret (texts, lengths, feet, sorts, nI (nv), nI (L), parts, over) hx hb hr hlocks (Or.inl ⟨by omega, rfl, rfl, rfl, rfl, rfl, rfl, rfl, rfl, rfl⟩) (fun t ht => show va_P g.1 vwCl (wX g asked values bytes starts ends (nI (L)) parts texts lengths feet sorts nxt (nI (nv)) sums oneSums otherSums byFeet kept over rcount rcust ssums ways nextWays reached nextReached found least greatest) t.heap by rw [ht]; exact hP) hS dX5_vocable_19
    · have c_7 := (not_congr (cv_lt_ni (by omega))).mp c_7
      refine lv_iload_n hx hb dX5_vocable_10 rfl (lv_at hl 2 rfl) ?_
      refine lv_iconst (v := (nI (3))) hx hb dX5_vocable_11 (by decide) ?_
      refine ro_call (va_runS (As := [.int (itsSort), .int (nI (3))]) (rest := []) ⟨hx, hb, hml, hown, hts⟩ (c_X5_isWithin l (itsSort) (3) (by decide)) (va_cwS 2 hts gX5_vocable_X5_isWithin rfl rfl rfl (by decide +kernel) ⟨Nat.le_of_ble_eq_true rfl, Nat.le_of_ble_eq_true rfl⟩) pre_0 rfl rfl hl.1 rfl (lv_room (Nat.le_of_ble_eq_true rfl)) dX5_vocable_12 ⟨Nat.zero_le _, Nat.zero_le _⟩) ?_
      refine lv_if_ne (tgt := 20) hx hb dX5_vocable_15 (by decide) (fun c_15 => ?_) (fun c_15 => ?_)
      · have c_15 := if_p c_15
        refine lv_aload_n hx hb dX5_vocable_20 rfl (lv_at hl 0 rfl) ?_
        refine an_get (ci := 5) (v := .ref (g.2.2 3)) (C := RX5) (T := TX5) (N := 6) hx hb hts iw_X5_vocable_X5 hown hK hP 0 rfl rfl 1 (by decide) (hts _ fl_X5_vocable_19) rfl dX5_vocable_21 ?_
        refine ro_call (va_runV (As := []) (rest := []) ⟨hx, hb, hml, hown, hts⟩ (c_X1_isWord l (g := g) (asked := asked) (values := values) (bytes := bytes) (starts := starts) (ends := ends) (L := L) (parts := parts) (texts := texts) (lengths := lengths) (feet := feet) (sorts := sorts) (nxt := nxt) (size := nI (nv)) (sums := sums) (oneSums := oneSums) (otherSums := otherSums) (byFeet := byFeet) (kept := kept) (over := over) (rcount := rcount) (rcust := rcust) (ssums := ssums) (ways := ways) (nextWays := nextWays) (reached := reached) (nextReached := nextReached) (found := found) (least := least) (greatest := greatest)  hL2) (cwV 0 hts gX5_vocable_X1_isWord rfl rfl rfl (by decide +kernel) ⟨Nat.le_of_ble_eq_true rfl, Nat.le_of_ble_eq_true rfl⟩) (pre_V pW_bl (va_recv hK hP (ci := 1) (q0 := 3) rfl rfl) (fun U hU hW => pW_of hP hK hN hU hW)) rfl rfl hl.1 rfl (lv_room (Nat.le_of_ble_eq_true rfl)) dX5_vocable_24 ⟨Nat.zero_le _, Nat.zero_le _⟩) ?_
        refine lv_if_ne (tgt := 33) hx hb dX5_vocable_27 (by decide) (fun c_27 => ?_) (fun c_27 => ?_)
        · have c_27 := if_p c_27
          refine lv_aload_n hx hb dX5_vocable_33 rfl (lv_at hl 0 rfl) ?_
          refine an_get (ci := 5) (v := .ref (g.2.2 7)) (C := RX5) (T := TX5) (N := 6) hx hb hts iw_X5_vocable_X5 hown hK hP 0 rfl rfl 2 (by decide) (hts _ fl_X5_vocable_26) rfl dX5_vocable_34 ?_
          refine an_get (ci := 4) (v := .int (nI (nv))) (C := RX4) (T := TX4) (N := 6) hx hb hts iw_X5_vocable_X4 hown hK hP 7 rfl rfl 5 (by decide) (hts _ fl_X5_vocable_101) rfl dX5_vocable_37 ?_
          refine lv_bipush (v := (nI (10))) hx hb dX5_vocable_40 (by decide) ?_
          refine lv_icmp_lt (tgt := 48) hx hb dX5_vocable_42 (by decide) (fun c_42 => ?_) (fun c_42 => ?_)
          · have c_42 := (cv_lt_nn (by omega) (by omega)).mp c_42
            refine lv_aload_n hx hb dX5_vocable_48 rfl (lv_at hl 0 rfl) ?_
            refine an_get (ci := 5) (v := .ref (g.2.2 7)) (C := RX5) (T := TX5) (N := 6) hx hb hts iw_X5_vocable_X5 hown hK hP 0 rfl rfl 2 (by decide) (hts _ fl_X5_vocable_26) rfl dX5_vocable_49 ?_
            refine an_get (ci := 4) (v := .int (nI (nv))) (C := RX4) (T := TX4) (N := 6) hx hb hts iw_X5_vocable_X4 hown hK hP 7 rfl rfl 5 (by decide) (hts _ fl_X5_vocable_101) rfl dX5_vocable_52 ?_
            refine lv_istore_n (lv' := [(3, .int (nI (nv))), (0, .ref (g.2.2 0)), (1, .int (itsFeet)), (2, .int (itsSort))]) hx hb dX5_vocable_55 rfl hl (by decide) rfl (fun ls hl => ?_)
            refine lv_aload_n hx hb dX5_vocable_56 rfl (lv_at hl 1 rfl) ?_
            refine an_get (ci := 5) (v := .ref (g.2.2 7)) (C := RX5) (T := TX5) (N := 6) hx hb hts iw_X5_vocable_X5 hown hK hP 0 rfl rfl 2 (by decide) (hts _ fl_X5_vocable_26) rfl dX5_vocable_57 ?_
            refine lv_aload_n hx hb dX5_vocable_60 rfl (lv_at hl 1 rfl) ?_
            refine an_get (ci := 5) (v := .ref (g.2.2 3)) (C := RX5) (T := TX5) (N := 6) hx hb hts iw_X5_vocable_X5 hown hK hP 0 rfl rfl 1 (by decide) (hts _ fl_X5_vocable_19) rfl dX5_vocable_61 ?_
            refine lv_iload_n hx hb dX5_vocable_64 rfl (lv_at hl 2 rfl) ?_
            refine lv_iload_n hx hb dX5_vocable_65 rfl (lv_at hl 3 rfl) ?_
            refine wr_callv (w := (fun (z : (Nat → Int32) × (Nat → Int32) × (Nat → Int32) × (Nat → Int32) × Int32) => (wX g asked values bytes starts ends (nI (L)) parts (z.1) (z.2.1) (z.2.2.1) (z.2.2.2.1) nxt (z.2.2.2.2) sums oneSums otherSums byFeet kept over rcount rcust ssums ways nextWays reached nextReached found least greatest))) (va_runV (As := [.ref (g.2.2 3), .int (itsFeet), .int (itsSort)]) (rest := []) ⟨hx, hb, hml, hown, hts⟩ (c_X4_take l (g := g) (asked := asked) (values := values) (bytes := bytes) (starts := starts) (ends := ends) (L := L) (parts := parts) (texts := texts) (lengths := lengths) (feet := feet) (sorts := sorts) (nxt := nxt) (nv := nv) (sums := sums) (oneSums := oneSums) (otherSums := otherSums) (byFeet := byFeet) (kept := kept) (over := over) (rcount := rcount) (rcust := rcust) (ssums := ssums) (ways := ways) (nextWays := nextWays) (reached := reached) (nextReached := nextReached) (found := found) (least := least) (greatest := greatest) (sz := _) (itsFeet) (itsSort) (by omega) c_27.1.2 hd) (cwV 3 hts gX5_vocable_X4_take rfl rfl rfl (by decide +kernel) ⟨Nat.le_of_ble_eq_true rfl, Nat.le_of_ble_eq_true rfl⟩) (pre_V qW_bl (va_recv hK hP (ci := 4) (q0 := 7) rfl rfl) (fun U hU hW => ⟨by rw [hU], pW_of hP hK hN hU hW⟩)) rfl rfl hl.1 rfl (lv_room (Nat.le_of_ble_eq_true rfl)) dX5_vocable_66 ⟨Nat.zero_le _, Nat.zero_le _⟩) hS (fun z66 H locs hp66 hP hS => ?_)
            obtain ⟨texts66, lengths66, feet66, sorts66, size66⟩ := z66
            try dsimp only at hp66
            have hP : va_P g.1 vwCl (wX g asked values bytes starts ends (nI (L)) parts texts66 lengths66 feet66 sorts66 nxt size66 sums oneSums otherSums byFeet kept over rcount rcust ssums ways nextWays reached nextReached found least greatest) H := hP
            refine lv_aload_n hx hb dX5_vocable_69 rfl (lv_at hl 1 rfl) ?_
            refine an_get (ci := 5) (v := .ref (g.2.2 3)) (C := RX5) (T := TX5) (N := 6) hx hb hts iw_X5_vocable_X5 hown hK hP 0 rfl rfl 1 (by decide) (hts _ fl_X5_vocable_19) rfl dX5_vocable_70 ?_
            refine wr_callv (w := (fun (z : Int32 × Int32) => (wX g asked values bytes starts ends (z.1) (z.2) texts66 lengths66 feet66 sorts66 nxt size66 sums oneSums otherSums byFeet kept over rcount rcust ssums ways nextWays reached nextReached found least greatest))) (va_runV (As := []) (rest := []) ⟨hx, hb, hml, hown, hts⟩ (c_X1_wipe l (g := g) (asked := asked) (values := values) (bytes := bytes) (starts := starts) (ends := ends) (length := nI (L)) (parts := parts) (texts := texts66) (lengths := lengths66) (feet := feet66) (sorts := sorts66) (nxt := nxt) (size := size66) (sums := sums) (oneSums := oneSums) (otherSums := otherSums) (byFeet := byFeet) (kept := kept) (over := over) (rcount := rcount) (rcust := rcust) (ssums := ssums) (ways := ways) (nextWays := nextWays) (reached := reached) (nextReached := nextReached) (found := found) (least := least) (greatest := greatest) (sz := _)  hd) (cwV 0 hts gX5_vocable_X1_wipe rfl rfl rfl (by decide +kernel) ⟨Nat.le_of_ble_eq_true rfl, Nat.le_of_ble_eq_true rfl⟩) (pre_V qW_bl (va_recv hK hP (ci := 1) (q0 := 3) rfl rfl) (fun U hU hW => ⟨by rw [hU], pW_of hP hK hN hU hW⟩)) rfl rfl hl.1 rfl (lv_room (Nat.le_of_ble_eq_true rfl)) dX5_vocable_73 ⟨Nat.zero_le _, Nat.zero_le _⟩) hS (fun z73 H locs hp73 hP hS => ?_)
            obtain ⟨length73, parts73⟩ := z73
            try dsimp only at hp73
            have hP : va_P g.1 vwCl (wX g asked values bytes starts ends length73 parts73 texts66 lengths66 feet66 sorts66 nxt size66 sums oneSums otherSums byFeet kept over rcount rcust ssums ways nextWays reached nextReached found least greatest) H := hP
            refine lv_aload_n hx hb dX5_vocable_76 rfl (lv_at hl 1 rfl) ?_
            refine an_get (ci := 5) (v := .ref (g.2.2 13)) (C := RX5) (T := TX5) (N := 6) hx hb hts iw_X5_vocable_X5 hown hK hP 0 rfl rfl 3 (by decide) (hts _ fl_X5_vocable_35) rfl dX5_vocable_77 ?_
            refine wr_callv (w := (fun (z : Int32) => (wX g asked values bytes starts ends length73 parts73 texts66 lengths66 feet66 sorts66 nxt size66 sums oneSums otherSums byFeet kept z rcount rcust ssums ways nextWays reached nextReached found least greatest))) (va_runV (As := []) (rest := []) ⟨hx, hb, hml, hown, hts⟩ (c_X3_forget l (g := g) (asked := asked) (values := values) (bytes := bytes) (starts := starts) (ends := ends) (length := length73) (parts := parts73) (texts := texts66) (lengths := lengths66) (feet := feet66) (sorts := sorts66) (nxt := nxt) (size := size66) (sums := sums) (oneSums := oneSums) (otherSums := otherSums) (byFeet := byFeet) (kept := kept) (over := over) (rcount := rcount) (rcust := rcust) (ssums := ssums) (ways := ways) (nextWays := nextWays) (reached := reached) (nextReached := nextReached) (found := found) (least := least) (greatest := greatest) (sz := _)  hd) (cwV 0 hts gX5_vocable_X3_forget rfl rfl rfl (by decide +kernel) ⟨Nat.le_of_ble_eq_true rfl, Nat.le_of_ble_eq_true rfl⟩) (pre_V qW_bl (va_recv hK hP (ci := 3) (q0 := 13) rfl rfl) (fun U hU hW => ⟨by rw [hU], pW_of hP hK hN hU hW⟩)) rfl rfl hl.1 rfl (lv_room (Nat.le_of_ble_eq_true rfl)) dX5_vocable_80 ⟨Nat.zero_le _, Nat.zero_le _⟩) hS (fun over80 H locs hp80 hP hS => ?_)
            have hP : va_P g.1 vwCl (wX g asked values bytes starts ends length73 parts73 texts66 lengths66 feet66 sorts66 nxt size66 sums oneSums otherSums byFeet kept over80 rcount rcust ssums ways nextWays reached nextReached found least greatest) H := hP
            refine lv_iload_n hx hb dX5_vocable_83 rfl (lv_at hl 0 rfl) ?_
            exact wr_iret (texts66, lengths66, feet66, sorts66, size66, length73, parts73, over80) hx hb hr hlocks (Or.inr (Or.inr (Or.inr ⟨by omega, c_27, by omega, rfl, hp66.1, hp66.2.1, hp66.2.2.1, hp66.2.2.2.1, hp66.2.2.2.2, hp73.1, hp73.2, hp80⟩))) (fun t ht => show va_P g.1 vwCl (wX g asked values bytes starts ends length73 parts73 texts66 lengths66 feet66 sorts66 nxt size66 sums oneSums otherSums byFeet kept over80 rcount rcust ssums ways nextWays reached nextReached found least greatest) t.heap by rw [ht]; exact hP) hS dX5_vocable_84
          · have c_42 := (not_congr (cv_lt_nn (by omega) (by omega))).mp c_42
            refine lv_bipush (v := ((-3 : Int32))) hx hb dX5_vocable_45 (by decide) ?_
            exact wr_iret (texts, lengths, feet, sorts, nI (nv), nI (L), parts, over) hx hb hr hlocks (Or.inr (Or.inr (Or.inl ⟨by omega, c_27, by omega, rfl, rfl, rfl, rfl, rfl, rfl, rfl, rfl, rfl⟩))) (fun t ht => show va_P g.1 vwCl (wX g asked values bytes starts ends (nI (L)) parts texts lengths feet sorts nxt (nI (nv)) sums oneSums otherSums byFeet kept over rcount rcust ssums ways nextWays reached nextReached found least greatest) t.heap by rw [ht]; exact hP) hS dX5_vocable_47
        · have c_27 := if_n c_27
          refine lv_bipush (v := ((-2 : Int32))) hx hb dX5_vocable_30 (by decide) ?_
          exact wr_iret (texts, lengths, feet, sorts, nI (nv), nI (L), parts, over) hx hb hr hlocks (Or.inr (Or.inl ⟨by omega, c_27, rfl, rfl, rfl, rfl, rfl, rfl, rfl, rfl, rfl⟩)) (fun t ht => show va_P g.1 vwCl (wX g asked values bytes starts ends (nI (L)) parts texts lengths feet sorts nxt (nI (nv)) sums oneSums otherSums byFeet kept over rcount rcust ssums ways nextWays reached nextReached found least greatest) t.heap by rw [ht]; exact hP) hS dX5_vocable_32
      · have c_15 := if_n c_15
        refine lv_iconst (v := ((-1 : Int32))) hx hb dX5_vocable_18 (by decide) ?_
        exact wr_iret (texts, lengths, feet, sorts, nI (nv), nI (L), parts, over) hx hb hr hlocks (Or.inl ⟨by omega, rfl, rfl, rfl, rfl, rfl, rfl, rfl, rfl, rfl⟩) (fun t ht => show va_P g.1 vwCl (wX g asked values bytes starts ends (nI (L)) parts texts lengths feet sorts nxt (nI (nv)) sums oneSums otherSums byFeet kept over rcount rcust ssums ways nextWays reached nextReached found least greatest) t.heap by rw [ht]; exact hP) hS dX5_vocable_19
theorem iw_X5_about_X4 : ∀ w ∈ u_ws RX4 TX4 6, w ∈ wsX5_about := by decide +kernel
theorem iw_X5_about_X5 : ∀ w ∈ u_ws RX5 TX5 6, w ∈ wsX5_about := by decide +kernel
theorem fl_X5_about_26 : Cond.fieldLink RX5 26 (TX5 2).1 (TX5 2).2.1 (TX5 2).2.2.1 ∈ wsX5_about := by decide +kernel
theorem fl_X5_about_101 : Cond.fieldLink RX5 101 (TX4 5).1 (TX4 5).2.1 (TX4 5).2.2.1 ∈ wsX5_about := by decide +kernel
theorem fl_X5_about_108 : Cond.fieldLink RX5 108 (TX4 1).1 (TX4 1).2.1 (TX4 1).2.2.1 ∈ wsX5_about := by decide +kernel
theorem fl_X5_about_111 : Cond.fieldLink RX5 111 (TX4 2).1 (TX4 2).2.1 (TX4 2).2.2.1 ∈ wsX5_about := by decide +kernel
theorem fl_X5_about_114 : Cond.fieldLink RX5 114 (TX4 3).1 (TX4 3).2.1 (TX4 3).2.2.1 ∈ wsX5_about := by decide +kernel
theorem fl_X5_about_117 : Cond.fieldLink RX5 117 (TX4 0).1 (TX4 0).2.1 (TX4 0).2.2.1 ∈ wsX5_about := by decide +kernel
set_option maxHeartbeats 200000 in
set_option maxRecDepth 100000 in
theorem c_X5_about (l : Launch) {g : GW} {asked : Int64} {values : Nat → Int32} {bytes : Nat → Int32} {starts : Nat → Int32} {ends : Nat → Int32} {length : Int32} {parts : Int32} {texts : Nat → Int32} {lengths : Nat → Int32} {feet : Nat → Int32} {sorts : Nat → Int32} {nxt : Nat → Int32} {nv : Nat} {sums : Nat → Int32} {oneSums : Nat → Int32} {otherSums : Nat → Int32} {byFeet : Nat → Int64} {kept : Nat → Int64} {over : Int32} {rcount : Int32} {rcust : Int32} {ssums : Nat → Int32} {ways : Nat → Int64} {nextWays : Nat → Int64} {reached : Nat → Int64} {nextReached : Nat → Int64} {found : Int32} {least : Int32} {greatest : Int32} (vocable : Int32) (what : Int32) (hnv : nv ≤ 10) : Met l yX5_about wsX5_about ({ frames := 1, cells := 0, slots := 0, locals := 21 }) (va_Pc ([.ref (g.2.2 0), .int (vocable), .int (what)]) (pW g (wX g asked values bytes starts ends length parts texts lengths feet sorts nxt (nI (nv)) sums oneSums otherSums byFeet kept over rcount rcust ssums ways nextWays reached nextReached found least greatest))) (ro_Q (.int (aAbout lengths feet sorts texts nv vocable what))) 0 0 (fun _ => False) := by
  refine Met.ofW (cc := cX5_about) (maxL := 3) (ret := (some .int)) (by decide) rfl ?_
  intro p e s m args below meth c s₁ B hml hv
  obtain ⟨rfl, hP, hK, hN⟩ := hv
  have hx := B.exec
  have hb := B.bytes
  have hr := B.returns
  have hts := atoms_spec (ws := wsX5_about) B.pre
  have hown : s.vm.findClass RX5 = some m.cls := findClass_of_methodNamed B.named
  have hlocks := B.notSynchronized
  have hl := lv_entry ([.ref (g.2.2 0), .int (vocable), .int (what)]) (n := 3) (Nat.le_of_ble_eq_true rfl)
  rw [lg_entry_eq]
  generalize (lg_sl ([.ref (g.2.2 0), .int (vocable), .int (what)]) ++ List.replicate (3 - (lg_sl ([.ref (g.2.2 0), .int (vocable), .int (what)])).length) Slot.unset).toArray = ls at hl ⊢
  have hl : lv_has ls 3 [(0, .ref (g.2.2 0)), (1, .int (vocable)), (2, .int (what))] := hl
  refine lv_iload_n hx hb dX5_about_0 rfl (lv_at hl 1 rfl) ?_
  refine lv_aload_n hx hb dX5_about_1 rfl (lv_at hl 0 rfl) ?_
  refine an_get (ci := 5) (v := .ref (g.2.2 7)) (C := RX5) (T := TX5) (N := 6) hx hb hts iw_X5_about_X5 hown hK hP 0 rfl rfl 2 (by decide) (hts _ fl_X5_about_26) rfl dX5_about_2 ?_
  refine an_get (ci := 4) (v := .int (nI (nv))) (C := RX4) (T := TX4) (N := 6) hx hb hts iw_X5_about_X4 hown hK hP 7 rfl rfl 5 (by decide) (hts _ fl_X5_about_101) rfl dX5_about_5 ?_
  refine ro_call (va_runS (As := [.int (vocable), .int (nI (nv))]) (rest := []) ⟨hx, hb, hml, hown, hts⟩ (c_X5_isWithin l (vocable) (nv) (by omega)) (va_cwS 2 hts gX5_about_X5_isWithin rfl rfl rfl (by decide +kernel) ⟨Nat.le_of_ble_eq_true rfl, Nat.le_of_ble_eq_true rfl⟩) pre_0 rfl rfl hl.1 rfl (lv_room (Nat.le_of_ble_eq_true rfl)) dX5_about_8 ⟨Nat.zero_le _, Nat.zero_le _⟩) ?_
  refine lv_if_ne (tgt := 16) hx hb dX5_about_11 (by decide) (fun c_11 => ?_) (fun c_11 => ?_)
  · have c_11 := if_p c_11
    have c11 := c_11
    obtain ⟨j, hj, rfl⟩ := iN_of c_11.1 c_11.2
    have hjn : tn (nI j) = j := tn_nI (by omega)
    refine lv_iload_n hx hb dX5_about_16 rfl (lv_at hl 2 rfl) ?_
    rcases (show (what).toInt = 0 ∨ (what).toInt = 1 ∨ (what).toInt = 2 ∨ (what).toInt = 3 ∨ ((what).toInt < 0 ∨ 3 < (what).toInt) by omega) with c_17 | c_17 | c_17 | c_17 | c_17
    · refine lv_tableIn (tgt := 48) (off := 31) hx hb dX5_about_17 (by omega) (by omega) (by rw [c_17]; rfl) (by decide) ?_
      refine lv_aload_n hx hb dX5_about_48 rfl (lv_at hl 0 rfl) ?_
      refine an_get (ci := 5) (v := .ref (g.2.2 7)) (C := RX5) (T := TX5) (N := 6) hx hb hts iw_X5_about_X5 hown hK hP 0 rfl rfl 2 (by decide) (hts _ fl_X5_about_26) rfl dX5_about_49 ?_
      refine an_get (ci := 4) (v := .ref (g.2.2 9)) (C := RX4) (T := TX4) (N := 6) hx hb hts iw_X5_about_X4 hown hK hP 7 rfl rfl 1 (by decide) (hts _ fl_X5_about_108) rfl dX5_about_52 ?_
      refine lv_iload_n hx hb dX5_about_55 rfl (lv_at hl 1 rfl) ?_
      refine an_iald (f := lengths) hx hb hK hP 9 0 rfl rfl (by decide) (by omega) dX5_about_56 ?_
      exact ro_iret hx hb hr hlocks (by unfold aAbout; rw [if_pos c11, hjn, if_pos (by omega)]) dX5_about_57
    · refine lv_tableIn (tgt := 58) (off := 41) hx hb dX5_about_17 (by omega) (by omega) (by rw [c_17]; rfl) (by decide) ?_
      refine lv_aload_n hx hb dX5_about_58 rfl (lv_at hl 0 rfl) ?_
      refine an_get (ci := 5) (v := .ref (g.2.2 7)) (C := RX5) (T := TX5) (N := 6) hx hb hts iw_X5_about_X5 hown hK hP 0 rfl rfl 2 (by decide) (hts _ fl_X5_about_26) rfl dX5_about_59 ?_
      refine an_get (ci := 4) (v := .ref (g.2.2 10)) (C := RX4) (T := TX4) (N := 6) hx hb hts iw_X5_about_X4 hown hK hP 7 rfl rfl 2 (by decide) (hts _ fl_X5_about_111) rfl dX5_about_62 ?_
      refine lv_iload_n hx hb dX5_about_65 rfl (lv_at hl 1 rfl) ?_
      refine an_iald (f := feet) hx hb hK hP 10 0 rfl rfl (by decide) (by omega) dX5_about_66 ?_
      exact ro_iret hx hb hr hlocks (by unfold aAbout; rw [if_pos c11, hjn, if_neg (by omega), if_pos (by omega)]) dX5_about_67
    · refine lv_tableIn (tgt := 68) (off := 51) hx hb dX5_about_17 (by omega) (by omega) (by rw [c_17]; rfl) (by decide) ?_
      refine lv_aload_n hx hb dX5_about_68 rfl (lv_at hl 0 rfl) ?_
      refine an_get (ci := 5) (v := .ref (g.2.2 7)) (C := RX5) (T := TX5) (N := 6) hx hb hts iw_X5_about_X5 hown hK hP 0 rfl rfl 2 (by decide) (hts _ fl_X5_about_26) rfl dX5_about_69 ?_
      refine an_get (ci := 4) (v := .ref (g.2.2 11)) (C := RX4) (T := TX4) (N := 6) hx hb hts iw_X5_about_X4 hown hK hP 7 rfl rfl 3 (by decide) (hts _ fl_X5_about_114) rfl dX5_about_72 ?_
      refine lv_iload_n hx hb dX5_about_75 rfl (lv_at hl 1 rfl) ?_
      refine an_iald (f := sorts) hx hb hK hP 11 0 rfl rfl (by decide) (by omega) dX5_about_76 ?_
      exact ro_iret hx hb hr hlocks (by unfold aAbout; rw [if_pos c11, hjn, if_neg (by omega), if_neg (by omega), if_pos (by omega)]) dX5_about_77
    · refine lv_tableIn (tgt := 78) (off := 61) hx hb dX5_about_17 (by omega) (by omega) (by rw [c_17]; rfl) (by decide) ?_
      refine lv_aload_n hx hb dX5_about_78 rfl (lv_at hl 0 rfl) ?_
      refine an_get (ci := 5) (v := .ref (g.2.2 7)) (C := RX5) (T := TX5) (N := 6) hx hb hts iw_X5_about_X5 hown hK hP 0 rfl rfl 2 (by decide) (hts _ fl_X5_about_26) rfl dX5_about_79 ?_
      refine an_get (ci := 4) (v := .ref (g.2.2 8)) (C := RX4) (T := TX4) (N := 6) hx hb hts iw_X5_about_X4 hown hK hP 7 rfl rfl 0 (by decide) (hts _ fl_X5_about_117) rfl dX5_about_82 ?_
      refine lv_iload_n hx hb dX5_about_85 rfl (lv_at hl 1 rfl) ?_
      refine lv_bipush (v := (nI (8))) hx hb dX5_about_86 (by decide) ?_
      refine ln_imul hx hb dX5_about_88 ?_
      refine an_iald (f := texts) hx hb hK hP 8 0 rfl rfl (by decide) (by omega) dX5_about_89 ?_
      exact ro_iret hx hb hr hlocks (by unfold aAbout; rw [if_pos c11, hjn, if_neg (by omega), if_neg (by omega), if_neg (by omega), if_pos (by omega)]) dX5_about_90
    · refine lv_tableOut (tgt := 91) hx hb dX5_about_17 (by omega) (by decide) ?_
      refine lv_iconst (v := ((-1 : Int32))) hx hb dX5_about_91 (by decide) ?_
      exact ro_iret hx hb hr hlocks (by unfold aAbout; rw [if_pos c11, hjn, if_neg (by omega), if_neg (by omega), if_neg (by omega), if_neg (by omega)]) dX5_about_92
  · have c_11 := if_n c_11
    refine lv_iconst (v := ((-1 : Int32))) hx hb dX5_about_14 (by decide) ?_
    exact ro_iret hx hb hr hlocks (by unfold aAbout; rw [if_neg c_11]) dX5_about_15
theorem iw_X5_order_X4 : ∀ w ∈ u_ws RX4 TX4 6, w ∈ wsX5_order := by decide +kernel
theorem iw_X5_order_X5 : ∀ w ∈ u_ws RX5 TX5 6, w ∈ wsX5_order := by decide +kernel
theorem fl_X5_order_26 : Cond.fieldLink RX5 26 (TX5 2).1 (TX5 2).2.1 (TX5 2).2.2.1 ∈ wsX5_order := by decide +kernel
theorem fl_X5_order_35 : Cond.fieldLink RX5 35 (TX5 3).1 (TX5 3).2.1 (TX5 3).2.2.1 ∈ wsX5_order := by decide +kernel
theorem fl_X5_order_120 : Cond.fieldLink RX5 120 (TX4 4).1 (TX4 4).2.1 (TX4 4).2.2.1 ∈ wsX5_order := by decide +kernel
set_option maxHeartbeats 200000 in
set_option maxRecDepth 100000 in
theorem c_X5_order (l : Launch) {g : GW} {asked : Int64} {values : Nat → Int32} {bytes : Nat → Int32} {starts : Nat → Int32} {ends : Nat → Int32} {length : Int32} {parts : Int32} {texts : Nat → Int32} {lengths : Nat → Int32} {feet : Nat → Int32} {sorts : Nat → Int32} {nxt : Nat → Int32} {size : Int32} {sums : Nat → Int32} {oneSums : Nat → Int32} {otherSums : Nat → Int32} {byFeet : Nat → Int64} {kept : Nat → Int64} {over : Int32} {rcount : Int32} {rcust : Int32} {ssums : Nat → Int32} {ways : Nat → Int64} {nextWays : Nat → Int64} {reached : Nat → Int64} {nextReached : Nat → Int64} {found : Int32} {least : Int32} {greatest : Int32} {sz : Nat} (srt : Int32) (set : Int32)  (hd : dW 25 g.2.2) : Met l yX5_order wsX5_order ({ frames := 1, cells := 0, slots := 0, locals := 21 }) (va_Pc ([.ref (g.2.2 0), .int (srt), .int (set)]) (qW g (wX g asked values bytes starts ends length parts texts lengths feet sorts nxt size sums oneSums otherSums byFeet kept over rcount rcust ssums ways nextWays reached nextReached found least greatest) sz)) (va_Qi (fun (r : Int32) (z : (Nat → Int32) × Int32) => (¬ ook srt set ∧ r = (-1 : Int32) ∧ z.1 = nxt ∧ z.2 = over) ∨ (ook srt set ∧ r = nxt (tn srt) ∧ z.1 = upd nxt (tn srt) set ∧ z.2 = nI 1)) (fun (z : (Nat → Int32) × Int32) (t : State) => va_P g.1 vwCl (wX g asked values bytes starts ends length parts texts lengths feet sorts (z.1) size sums oneSums otherSums byFeet kept (z.2) rcount rcust ssums ways nextWays reached nextReached found least greatest) t.heap) (aW 25 g.2.2 sz)) 0 0 (aW 25 g.2.2 sz) := by
  refine Met.ofW (cc := cX5_order) (maxL := 4) (ret := (some .int)) (by decide) rfl ?_
  intro p e s m args below meth c s₁ B hml hv
  obtain ⟨rfl, hsz9, hP, hK, hN⟩ := hv
  subst hsz9
  have hx := B.exec
  have hb := B.bytes
  have hr := B.returns
  have hts := atoms_spec (ws := wsX5_order) B.pre
  have hown : s.vm.findClass RX5 = some m.cls := findClass_of_methodNamed B.named
  have hlocks := B.notSynchronized
  have hS : va_S (aW 25 g.2.2 s.heap.size) s.heap s.heap [] := va_S.rf
  have hl := lv_entry ([.ref (g.2.2 0), .int (srt), .int (set)]) (n := 4) (Nat.le_of_ble_eq_true rfl)
  rw [lg_entry_eq]
  generalize (lg_sl ([.ref (g.2.2 0), .int (srt), .int (set)]) ++ List.replicate (4 - (lg_sl ([.ref (g.2.2 0), .int (srt), .int (set)])).length) Slot.unset).toArray = ls at hl ⊢
  have hl : lv_has ls 4 [(0, .ref (g.2.2 0)), (1, .int (srt)), (2, .int (set))] := hl
  refine lv_iload_n hx hb dX5_order_0 rfl (lv_at hl 1 rfl) ?_
  refine lv_iconst (v := (nI (4))) hx hb dX5_order_1 (by decide) ?_
  refine ro_call (va_runS (As := [.int (srt), .int (nI (4))]) (rest := []) ⟨hx, hb, hml, hown, hts⟩ (c_X5_isWithin l (srt) (4) (by decide)) (va_cwS 2 hts gX5_order_X5_isWithin rfl rfl rfl (by decide +kernel) ⟨Nat.le_of_ble_eq_true rfl, Nat.le_of_ble_eq_true rfl⟩) pre_0 rfl rfl hl.1 rfl (lv_room (Nat.le_of_ble_eq_true rfl)) dX5_order_2 ⟨Nat.zero_le _, Nat.zero_le _⟩) ?_
  refine lv_if_eq (tgt := 17) hx hb dX5_order_5 (by decide) (fun c_5 => ?_) (fun c_5 => ?_)
  · have c_5 := if_n c_5
    refine lv_iconst (v := ((-1 : Int32))) hx hb dX5_order_17 (by decide) ?_
    exact wr_iret (nxt, over) hx hb hr hlocks (Or.inl ⟨by omega, rfl, rfl, rfl⟩) (fun t ht => show va_P g.1 vwCl (wX g asked values bytes starts ends length parts texts lengths feet sorts nxt size sums oneSums otherSums byFeet kept over rcount rcust ssums ways nextWays reached nextReached found least greatest) t.heap by rw [ht]; exact hP) hS dX5_order_18
  · have c_5 := if_p c_5
    refine lv_iload_n hx hb dX5_order_8 rfl (lv_at hl 2 rfl) ?_
    refine lv_bipush (v := (nI (8))) hx hb dX5_order_9 (by decide) ?_
    refine ro_call (va_runS (As := [.int (set), .int (nI (8))]) (rest := []) ⟨hx, hb, hml, hown, hts⟩ (c_X5_isWithin l (set) (8) (by decide)) (va_cwS 2 hts gX5_order_X5_isWithin rfl rfl rfl (by decide +kernel) ⟨Nat.le_of_ble_eq_true rfl, Nat.le_of_ble_eq_true rfl⟩) pre_0 rfl rfl hl.1 rfl (lv_room (Nat.le_of_ble_eq_true rfl)) dX5_order_11 ⟨Nat.zero_le _, Nat.zero_le _⟩) ?_
    refine lv_if_ne (tgt := 19) hx hb dX5_order_14 (by decide) (fun c_14 => ?_) (fun c_14 => ?_)
    · have c_14 := if_p c_14
      have c5 := c_5
      obtain ⟨s9, hs9, rfl⟩ := iN_of (b := 4) c_5.1 c_5.2
      have hsn : tn (nI s9) = s9 := tn_nI (by omega)
      refine lv_aload_n hx hb dX5_order_19 rfl (lv_at hl 0 rfl) ?_
      refine an_get (ci := 5) (v := .ref (g.2.2 7)) (C := RX5) (T := TX5) (N := 6) hx hb hts iw_X5_order_X5 hown hK hP 0 rfl rfl 2 (by decide) (hts _ fl_X5_order_26) rfl dX5_order_20 ?_
      refine an_get (ci := 4) (v := .ref (g.2.2 12)) (C := RX4) (T := TX4) (N := 6) hx hb hts iw_X5_order_X4 hown hK hP 7 rfl rfl 4 (by decide) (hts _ fl_X5_order_120) rfl dX5_order_23 ?_
      refine lv_iload_n hx hb dX5_order_26 rfl (lv_at hl 1 rfl) ?_
      refine an_iald (f := nxt) hx hb hK hP 12 0 rfl rfl (by decide) (by omega) dX5_order_27 ?_
      refine lv_istore_n (lv' := [(3, .int (nxt (s9))), (0, .ref (g.2.2 0)), (1, .int (nI (s9))), (2, .int (set))]) hx hb dX5_order_28 rfl hl (by decide) rfl (fun ls hl => ?_)
      refine lv_aload_n hx hb dX5_order_29 rfl (lv_at hl 1 rfl) ?_
      refine an_get (ci := 5) (v := .ref (g.2.2 7)) (C := RX5) (T := TX5) (N := 6) hx hb hts iw_X5_order_X5 hown hK hP 0 rfl rfl 2 (by decide) (hts _ fl_X5_order_26) rfl dX5_order_30 ?_
      refine an_get (ci := 4) (v := .ref (g.2.2 12)) (C := RX4) (T := TX4) (N := 6) hx hb hts iw_X5_order_X4 hown hK hP 7 rfl rfl 4 (by decide) (hts _ fl_X5_order_120) rfl dX5_order_33 ?_
      refine lv_iload_n hx hb dX5_order_36 rfl (lv_at hl 2 rfl) ?_
      refine lv_iload_n hx hb dX5_order_37 rfl (lv_at hl 3 rfl) ?_
      refine an_iast (f := nxt) (ws' := (wX g asked values bytes starts ends length parts texts lengths feet sorts (upd (nxt) (s9) (set)) size sums oneSums otherSums byFeet kept over rcount rcust ssums ways nextWays reached nextReached found least greatest)) hx hb hK hP (wX_D hd) hS 12 0 rfl rfl (by decide) (by omega) rfl dX5_order_38 (fun H locs hP hS => ?_)
      refine lv_aload_n hx hb dX5_order_39 rfl (lv_at hl 1 rfl) ?_
      refine an_get (ci := 5) (v := .ref (g.2.2 13)) (C := RX5) (T := TX5) (N := 6) hx hb hts iw_X5_order_X5 hown hK hP 0 rfl rfl 3 (by decide) (hts _ fl_X5_order_35) rfl dX5_order_40 ?_
      refine wr_callv (w := (fun (z : Int32) => (wX g asked values bytes starts ends length parts texts lengths feet sorts (upd (nxt) (s9) (set)) size sums oneSums otherSums byFeet kept z rcount rcust ssums ways nextWays reached nextReached found least greatest))) (va_runV (As := []) (rest := []) ⟨hx, hb, hml, hown, hts⟩ (c_X3_forget l (g := g) (asked := asked) (values := values) (bytes := bytes) (starts := starts) (ends := ends) (length := length) (parts := parts) (texts := texts) (lengths := lengths) (feet := feet) (sorts := sorts) (nxt := upd (nxt) (s9) (set)) (size := size) (sums := sums) (oneSums := oneSums) (otherSums := otherSums) (byFeet := byFeet) (kept := kept) (over := over) (rcount := rcount) (rcust := rcust) (ssums := ssums) (ways := ways) (nextWays := nextWays) (reached := reached) (nextReached := nextReached) (found := found) (least := least) (greatest := greatest) (sz := _)  hd) (cwV 0 hts gX5_order_X3_forget rfl rfl rfl (by decide +kernel) ⟨Nat.le_of_ble_eq_true rfl, Nat.le_of_ble_eq_true rfl⟩) (pre_V qW_bl (va_recv hK hP (ci := 3) (q0 := 13) rfl rfl) (fun U hU hW => ⟨by rw [hU], pW_of hP hK hN hU hW⟩)) rfl rfl hl.1 rfl (lv_room (Nat.le_of_ble_eq_true rfl)) dX5_order_43 ⟨Nat.zero_le _, Nat.zero_le _⟩) hS (fun over43 H locs hp43 hP hS => ?_)
      have hP : va_P g.1 vwCl (wX g asked values bytes starts ends length parts texts lengths feet sorts (upd (nxt) (s9) (set)) size sums oneSums otherSums byFeet kept over43 rcount rcust ssums ways nextWays reached nextReached found least greatest) H := hP
      refine lv_iload_n hx hb dX5_order_46 rfl (lv_at hl 0 rfl) ?_
      exact wr_iret (upd (nxt) (s9) (set), over43) hx hb hr hlocks (by rw [hsn]; exact Or.inr ⟨by omega, rfl, rfl, hp43⟩) (fun t ht => show va_P g.1 vwCl (wX g asked values bytes starts ends length parts texts lengths feet sorts (upd (nxt) (s9) (set)) size sums oneSums otherSums byFeet kept over43 rcount rcust ssums ways nextWays reached nextReached found least greatest) t.heap by rw [ht]; exact hP) hS dX5_order_47
    · have c_14 := if_n c_14
      refine lv_iconst (v := ((-1 : Int32))) hx hb dX5_order_17 (by decide) ?_
      exact wr_iret (nxt, over) hx hb hr hlocks (Or.inl ⟨by omega, rfl, rfl, rfl⟩) (fun t ht => show va_P g.1 vwCl (wX g asked values bytes starts ends length parts texts lengths feet sorts nxt size sums oneSums otherSums byFeet kept over rcount rcust ssums ways nextWays reached nextReached found least greatest) t.heap by rw [ht]; exact hP) hS dX5_order_18
theorem iw_X5_many_X5 : ∀ w ∈ u_ws RX5 TX5 6, w ∈ wsX5_many := by decide +kernel
theorem fl_X5_many_35 : Cond.fieldLink RX5 35 (TX5 3).1 (TX5 3).2.1 (TX5 3).2.2.1 ∈ wsX5_many := by decide +kernel
set_option maxHeartbeats 200000 in
set_option maxRecDepth 100000 in
theorem c_X5_many (l : Launch) {g : GW} {asked : Int64} {values : Nat → Int32} {bytes : Nat → Int32} {starts : Nat → Int32} {ends : Nat → Int32} {length : Int32} {parts : Int32} {texts : Nat → Int32} {lengths : Nat → Int32} {feet : Nat → Int32} {sorts : Nat → Int32} {nxt : Nat → Int32} {nv : Nat} {sums : Nat → Int32} {oneSums : Nat → Int32} {otherSums : Nat → Int32} {byFeet : Nat → Int64} {kept : Nat → Int64} {over : Int32} {rcount : Int32} {rcust : Int32} {ssums : Nat → Int32} {ways : Nat → Int64} {nextWays : Nat → Int64} {reached : Nat → Int64} {nextReached : Nat → Int64} {found : Int32} {least : Int32} {greatest : Int32} {sz : Nat} (ft : Int32) (hnv : nv ≤ 10) (hfe : okV feet nv 1 3) (hso : okV sorts nv 0 2) (hd : dW 25 g.2.2) : Met l yX5_many wsX5_many ({ frames := 3, cells := 0, slots := 0, locals := 70 }) (va_Pc ([.ref (g.2.2 0), .int (ft)]) (qW g (wX g asked values bytes starts ends length parts texts lengths feet sorts nxt (nI (nv)) sums oneSums otherSums byFeet kept over rcount rcust ssums ways nextWays reached nextReached found least greatest) sz)) (va_Ql (fun (r : Int64) (z : (Nat → Int64)) => r = if 1 ≤ ft.toInt ∧ ft.toInt ≤ 8 then lN (mwy feet sorts nxt nv (tn ft) 3) else (-1 : Int64)) (fun (z : (Nat → Int64)) (t : State) => va_P g.1 vwCl (wX g asked values bytes starts ends length parts texts lengths feet sorts nxt (nI (nv)) sums oneSums otherSums z kept over rcount rcust ssums ways nextWays reached nextReached found least greatest) t.heap) (aW 25 g.2.2 sz)) 0 0 (aW 25 g.2.2 sz) := by
  refine Met.ofW (cc := cX5_many) (maxL := 2) (ret := (some .long)) (by decide) rfl ?_
  intro p e s m args below meth c s₁ B hml hv
  obtain ⟨rfl, hsz9, hP, hK, hN⟩ := hv
  subst hsz9
  have hx := B.exec
  have hb := B.bytes
  have hr := B.returns
  have hts := atoms_spec (ws := wsX5_many) B.pre
  have hown : s.vm.findClass RX5 = some m.cls := findClass_of_methodNamed B.named
  have hlocks := B.notSynchronized
  have hS : va_S (aW 25 g.2.2 s.heap.size) s.heap s.heap [] := va_S.rf
  have hl := lv_entry ([.ref (g.2.2 0), .int (ft)]) (n := 2) (Nat.le_of_ble_eq_true rfl)
  rw [lg_entry_eq]
  generalize (lg_sl ([.ref (g.2.2 0), .int (ft)]) ++ List.replicate (2 - (lg_sl ([.ref (g.2.2 0), .int (ft)])).length) Slot.unset).toArray = ls at hl ⊢
  have hl : lv_has ls 2 [(0, .ref (g.2.2 0)), (1, .int (ft))] := hl
  refine lv_iload_n hx hb dX5_many_0 rfl (lv_at hl 1 rfl) ?_
  refine lv_iconst (v := (nI (1))) hx hb dX5_many_1 (by decide) ?_
  refine lv_icmp_lt (tgt := 11) hx hb dX5_many_2 (by decide) (fun c_2 => ?_) (fun c_2 => ?_)
  · have c_2 := (cv_lt_in (by omega)).mp c_2
    refine lv_ldc2 hx hb hown (hts (.constantLong RX5 123 (-1)) (by decide +kernel)) dX5_many_11 ?_
    exact wr_lret (byFeet) hx hb hr hlocks (by rw [if_neg (by omega)]) (fun t ht => show va_P g.1 vwCl (wX g asked values bytes starts ends length parts texts lengths feet sorts nxt (nI (nv)) sums oneSums otherSums byFeet kept over rcount rcust ssums ways nextWays reached nextReached found least greatest) t.heap by rw [ht]; exact hP) hS dX5_many_14
  · have c_2 := (not_congr (cv_lt_in (by omega))).mp c_2
    refine lv_iload_n hx hb dX5_many_5 rfl (lv_at hl 1 rfl) ?_
    refine lv_bipush (v := (nI (8))) hx hb dX5_many_6 (by decide) ?_
    refine lv_icmp_le (tgt := 15) hx hb dX5_many_8 (by decide) (fun c_8 => ?_) (fun c_8 => ?_)
    · have c_8 := (cv_le_in (by omega)).mp c_8
      obtain ⟨f0, hf0, rfl⟩ := iN_of (x := ft) (b := 9) (by omega) (by omega)
      have hft9 : (nI f0).toInt = (f0 : Int) := nI_toInt (by omega)
      refine lv_aload_n hx hb dX5_many_15 rfl (lv_at hl 0 rfl) ?_
      refine an_get (ci := 5) (v := .ref (g.2.2 13)) (C := RX5) (T := TX5) (N := 6) hx hb hts iw_X5_many_X5 hown hK hP 0 rfl rfl 3 (by decide) (hts _ fl_X5_many_35) rfl dX5_many_16 ?_
      refine lv_iload_n hx hb dX5_many_19 rfl (lv_at hl 1 rfl) ?_
      refine wr_calll (w := (fun (z : (Nat → Int64)) => (wX g asked values bytes starts ends length parts texts lengths feet sorts nxt (nI (nv)) sums oneSums otherSums z kept over rcount rcust ssums ways nextWays reached nextReached found least greatest))) (va_runV (As := [.int (nI (f0))]) (rest := []) ⟨hx, hb, hml, hown, hts⟩ (c_X3_ofFeet l (g := g) (asked := asked) (values := values) (bytes := bytes) (starts := starts) (ends := ends) (length := length) (parts := parts) (texts := texts) (lengths := lengths) (feet := feet) (sorts := sorts) (nxt := nxt) (nv := nv) (sums := sums) (oneSums := oneSums) (otherSums := otherSums) (byFeet := byFeet) (kept := kept) (over := over) (rcount := rcount) (rcust := rcust) (ssums := ssums) (ways := ways) (nextWays := nextWays) (reached := reached) (nextReached := nextReached) (found := found) (least := least) (greatest := greatest) (sz := _) (f0) (by omega) hnv hfe hso hd) (cwV 1 hts gX5_many_X3_ofFeet rfl rfl rfl (by decide +kernel) ⟨Nat.le_of_ble_eq_true rfl, Nat.le_of_ble_eq_true rfl⟩) (pre_V qW_bl (va_recv hK hP (ci := 3) (q0 := 13) rfl rfl) (fun U hU hW => ⟨by rw [hU], pW_of hP hK hN hU hW⟩)) rfl rfl hl.1 rfl (lv_room (Nat.le_of_ble_eq_true rfl)) dX5_many_20 ⟨Nat.zero_le _, Nat.zero_le _⟩) hS (fun r20 byFeet20 H locs hp20 hP hS => ?_)
      have hP : va_P g.1 vwCl (wX g asked values bytes starts ends length parts texts lengths feet sorts nxt (nI (nv)) sums oneSums otherSums byFeet20 kept over rcount rcust ssums ways nextWays reached nextReached found least greatest) H := hP
      exact wr_lret (byFeet20) hx hb hr hlocks (by rw [if_pos (by omega), tn_nI (by omega)]; exact hp20) (fun t ht => show va_P g.1 vwCl (wX g asked values bytes starts ends length parts texts lengths feet sorts nxt (nI (nv)) sums oneSums otherSums byFeet20 kept over rcount rcust ssums ways nextWays reached nextReached found least greatest) t.heap by rw [ht]; exact hP) hS dX5_many_23
    · have c_8 := (not_congr (cv_le_in (by omega))).mp c_8
      refine lv_ldc2 hx hb hown (hts (.constantLong RX5 123 (-1)) (by decide +kernel)) dX5_many_11 ?_
      exact wr_lret (byFeet) hx hb hr hlocks (by rw [if_neg (by omega)]) (fun t ht => show va_P g.1 vwCl (wX g asked values bytes starts ends length parts texts lengths feet sorts nxt (nI (nv)) sums oneSums otherSums byFeet kept over rcount rcust ssums ways nextWays reached nextReached found least greatest) t.heap by rw [ht]; exact hP) hS dX5_many_14
theorem iw_X5_fit_X1 : ∀ w ∈ u_ws RX1 TX1 5, w ∈ wsX5_fit := by decide +kernel
theorem iw_X5_fit_X5 : ∀ w ∈ u_ws RX5 TX5 6, w ∈ wsX5_fit := by decide +kernel
theorem fl_X5_fit_19 : Cond.fieldLink RX5 19 (TX5 1).1 (TX5 1).2.1 (TX5 1).2.2.1 ∈ wsX5_fit := by decide +kernel
theorem fl_X5_fit_44 : Cond.fieldLink RX5 44 (TX5 4).1 (TX5 4).2.1 (TX5 4).2.2.1 ∈ wsX5_fit := by decide +kernel
theorem fl_X5_fit_145 : Cond.fieldLink RX5 145 (TX1 4).1 (TX1 4).2.1 (TX1 4).2.2.1 ∈ wsX5_fit := by decide +kernel
set_option maxHeartbeats 200000 in
set_option maxRecDepth 100000 in
theorem c_X5_fit (l : Launch) {g : GW} {asked : Int64} {values : Nat → Int32} {bytes : Nat → Int32} {starts : Nat → Int32} {ends : Nat → Int32} {L : Nat} {pt : Nat} {texts : Nat → Int32} {lengths : Nat → Int32} {feet : Nat → Int32} {sorts : Nat → Int32} {nxt : Nat → Int32} {nv : Nat} {sums : Nat → Int32} {oneSums : Nat → Int32} {otherSums : Nat → Int32} {byFeet : Nat → Int64} {kept : Nat → Int64} {over : Int32} {rcount : Int32} {rcust : Int32} {ssums : Nat → Int32} {ways : Nat → Int64} {nextWays : Nat → Int64} {reached : Nat → Int64} {nextReached : Nat → Int64} {found : Int32} {least : Int32} {greatest : Int32} (i : Int32) (hpt : pt = pn bytes L) (hnv : nv ≤ 10) (hL2 : L ≤ 40) (hrow : prow bytes L starts ends) (hle : okV lengths nv 1 8) : Met l yX5_fit wsX5_fit ({ frames := 2, cells := 0, slots := 0, locals := 50 }) (va_Pc ([.ref (g.2.2 0), .int (i)]) (pW g (wX g asked values bytes starts ends (nI (L)) (nI (pt)) texts lengths feet sorts nxt (nI (nv)) sums oneSums otherSums byFeet kept over rcount rcust ssums ways nextWays reached nextReached found least greatest))) (ro_Q (.int (aFit bytes texts lengths L nv i))) 0 0 (fun _ => False) := by
  refine Met.ofW (cc := cX5_fit) (maxL := 2) (ret := (some .int)) (by decide) rfl ?_
  intro p e s m args below meth c s₁ B hml hv
  obtain ⟨rfl, hP, hK, hN⟩ := hv
  have hx := B.exec
  have hb := B.bytes
  have hr := B.returns
  have hts := atoms_spec (ws := wsX5_fit) B.pre
  have hown : s.vm.findClass RX5 = some m.cls := findClass_of_methodNamed B.named
  have hlocks := B.notSynchronized
  have hl := lv_entry ([.ref (g.2.2 0), .int (i)]) (n := 2) (Nat.le_of_ble_eq_true rfl)
  rw [lg_entry_eq]
  generalize (lg_sl ([.ref (g.2.2 0), .int (i)]) ++ List.replicate (2 - (lg_sl ([.ref (g.2.2 0), .int (i)])).length) Slot.unset).toArray = ls at hl ⊢
  have hl : lv_has ls 2 [(0, .ref (g.2.2 0)), (1, .int (i))] := hl
  have hp20 := pn_room bytes L
  refine lv_iload_n hx hb dX5_fit_0 rfl (lv_at hl 1 rfl) ?_
  refine lv_aload_n hx hb dX5_fit_1 rfl (lv_at hl 0 rfl) ?_
  refine an_get (ci := 5) (v := .ref (g.2.2 3)) (C := RX5) (T := TX5) (N := 6) hx hb hts iw_X5_fit_X5 hown hK hP 0 rfl rfl 1 (by decide) (hts _ fl_X5_fit_19) rfl dX5_fit_2 ?_
  refine an_get (ci := 1) (v := .int (nI (pt))) (C := RX1) (T := TX1) (N := 5) hx hb hts iw_X5_fit_X1 hown hK hP 3 rfl rfl 4 (by decide) (hts _ fl_X5_fit_145) rfl dX5_fit_5 ?_
  refine ro_call (va_runS (As := [.int (i), .int (nI (pt))]) (rest := []) ⟨hx, hb, hml, hown, hts⟩ (c_X5_isWithin l (i) (pt) (by omega)) (va_cwS 2 hts gX5_fit_X5_isWithin rfl rfl rfl (by decide +kernel) ⟨Nat.le_of_ble_eq_true rfl, Nat.le_of_ble_eq_true rfl⟩) pre_0 rfl rfl hl.1 rfl (lv_room (Nat.le_of_ble_eq_true rfl)) dX5_fit_8 ⟨Nat.zero_le _, Nat.zero_le _⟩) ?_
  refine lv_if_ne (tgt := 16) hx hb dX5_fit_11 (by decide) (fun c_11 => ?_) (fun c_11 => ?_)
  · have c_11 := if_p c_11
    have c11 := c_11
    obtain ⟨j, hj, rfl⟩ := iN_of c_11.1 c_11.2
    have hjn : tn (nI j) = j := tn_nI (by omega)
    refine lv_aload_n hx hb dX5_fit_16 rfl (lv_at hl 0 rfl) ?_
    refine an_get (ci := 5) (v := .ref (g.2.2 19)) (C := RX5) (T := TX5) (N := 6) hx hb hts iw_X5_fit_X5 hown hK hP 0 rfl rfl 4 (by decide) (hts _ fl_X5_fit_44) rfl dX5_fit_17 ?_
    refine lv_iload_n hx hb dX5_fit_20 rfl (lv_at hl 1 rfl) ?_
    refine ro_call (va_runV (As := [.int (nI (j))]) (rest := []) ⟨hx, hb, hml, hown, hts⟩ (c_X2_fittingPart l (g := g) (asked := asked) (values := values) (bytes := bytes) (starts := starts) (ends := ends) (L := L) (parts := nI (pt)) (texts := texts) (lengths := lengths) (feet := feet) (sorts := sorts) (nxt := nxt) (nv := nv) (sums := sums) (oneSums := oneSums) (otherSums := otherSums) (byFeet := byFeet) (kept := kept) (over := over) (rcount := rcount) (rcust := rcust) (ssums := ssums) (ways := ways) (nextWays := nextWays) (reached := reached) (nextReached := nextReached) (found := found) (least := least) (greatest := greatest) (j) hnv hL2 (by omega) hrow hle) (cwV 1 hts gX5_fit_X2_fittingPart rfl rfl rfl (by decide +kernel) ⟨Nat.le_of_ble_eq_true rfl, Nat.le_of_ble_eq_true rfl⟩) (pre_V pW_bl (va_recv hK hP (ci := 2) (q0 := 19) rfl rfl) (fun U hU hW => pW_of hP hK hN hU hW)) rfl rfl hl.1 rfl (lv_room (Nat.le_of_ble_eq_true rfl)) dX5_fit_21 ⟨Nat.zero_le _, Nat.zero_le _⟩) ?_
    exact ro_iret hx hb hr hlocks (by unfold aFit; rw [if_pos (by rw [← hpt]; exact c11), hjn]) dX5_fit_24
  · have c_11 := if_n c_11
    refine lv_iconst (v := ((-1 : Int32))) hx hb dX5_fit_14 (by decide) ?_
    exact ro_iret hx hb hr hlocks (by unfold aFit; rw [if_neg (by rw [← hpt]; exact c_11)]) dX5_fit_15
theorem iw_X5_count_X1 : ∀ w ∈ u_ws RX1 TX1 5, w ∈ wsX5_count := by decide +kernel
theorem iw_X5_count_X4 : ∀ w ∈ u_ws RX4 TX4 6, w ∈ wsX5_count := by decide +kernel
theorem iw_X5_count_X5 : ∀ w ∈ u_ws RX5 TX5 6, w ∈ wsX5_count := by decide +kernel
theorem fl_X5_count_19 : Cond.fieldLink RX5 19 (TX5 1).1 (TX5 1).2.1 (TX5 1).2.2.1 ∈ wsX5_count := by decide +kernel
theorem fl_X5_count_26 : Cond.fieldLink RX5 26 (TX5 2).1 (TX5 2).2.1 (TX5 2).2.2.1 ∈ wsX5_count := by decide +kernel
theorem fl_X5_count_82 : Cond.fieldLink RX5 82 (TX1 3).1 (TX1 3).2.1 (TX1 3).2.2.1 ∈ wsX5_count := by decide +kernel
theorem fl_X5_count_101 : Cond.fieldLink RX5 101 (TX4 5).1 (TX4 5).2.1 (TX4 5).2.2.1 ∈ wsX5_count := by decide +kernel
theorem fl_X5_count_145 : Cond.fieldLink RX5 145 (TX1 4).1 (TX1 4).2.1 (TX1 4).2.2.1 ∈ wsX5_count := by decide +kernel
set_option maxHeartbeats 200000 in
set_option maxRecDepth 100000 in
theorem c_X5_count (l : Launch) {g : GW} {asked : Int64} {values : Nat → Int32} {bytes : Nat → Int32} {starts : Nat → Int32} {ends : Nat → Int32} {L : Nat} {pt : Nat} {texts : Nat → Int32} {lengths : Nat → Int32} {feet : Nat → Int32} {sorts : Nat → Int32} {nxt : Nat → Int32} {nv : Nat} {sums : Nat → Int32} {oneSums : Nat → Int32} {otherSums : Nat → Int32} {byFeet : Nat → Int64} {kept : Nat → Int64} {over : Int32} {rcount : Int32} {rcust : Int32} {ssums : Nat → Int32} {ways : Nat → Int64} {nextWays : Nat → Int64} {reached : Nat → Int64} {nextReached : Nat → Int64} {found : Int32} {least : Int32} {greatest : Int32} (what : Int32) (hpt : pt = pn bytes L) (hL2 : L ≤ 40) : Met l yX5_count wsX5_count ({ frames := 1, cells := 0, slots := 0, locals := 22 }) (va_Pc ([.ref (g.2.2 0), .int (what)]) (pW g (wX g asked values bytes starts ends (nI (L)) (nI (pt)) texts lengths feet sorts nxt (nI (nv)) sums oneSums otherSums byFeet kept over rcount rcust ssums ways nextWays reached nextReached found least greatest))) (ro_Q (.int (aCount bytes nv L what))) 0 0 (fun _ => False) := by
  refine Met.ofW (cc := cX5_count) (maxL := 2) (ret := (some .int)) (by decide) rfl ?_
  intro p e s m args below meth c s₁ B hml hv
  obtain ⟨rfl, hP, hK, hN⟩ := hv
  have hx := B.exec
  have hb := B.bytes
  have hr := B.returns
  have hts := atoms_spec (ws := wsX5_count) B.pre
  have hown : s.vm.findClass RX5 = some m.cls := findClass_of_methodNamed B.named
  have hlocks := B.notSynchronized
  have hl := lv_entry ([.ref (g.2.2 0), .int (what)]) (n := 2) (Nat.le_of_ble_eq_true rfl)
  rw [lg_entry_eq]
  generalize (lg_sl ([.ref (g.2.2 0), .int (what)]) ++ List.replicate (2 - (lg_sl ([.ref (g.2.2 0), .int (what)])).length) Slot.unset).toArray = ls at hl ⊢
  have hl : lv_has ls 2 [(0, .ref (g.2.2 0)), (1, .int (what))] := hl
  refine lv_iload_n hx hb dX5_count_0 rfl (lv_at hl 1 rfl) ?_
  rcases (show (what).toInt = 0 ∨ (what).toInt = 1 ∨ (what).toInt = 2 ∨ (what).toInt = 3 ∨ ((what).toInt < 0 ∨ 3 < (what).toInt) by omega) with c_1 | c_1 | c_1 | c_1 | c_1
  · refine lv_tableIn (tgt := 32) (off := 31) hx hb dX5_count_1 (by omega) (by omega) (by rw [c_1]; rfl) (by decide) ?_
    refine lv_aload_n hx hb dX5_count_32 rfl (lv_at hl 0 rfl) ?_
    refine an_get (ci := 5) (v := .ref (g.2.2 7)) (C := RX5) (T := TX5) (N := 6) hx hb hts iw_X5_count_X5 hown hK hP 0 rfl rfl 2 (by decide) (hts _ fl_X5_count_26) rfl dX5_count_33 ?_
    refine an_get (ci := 4) (v := .int (nI (nv))) (C := RX4) (T := TX4) (N := 6) hx hb hts iw_X5_count_X4 hown hK hP 7 rfl rfl 5 (by decide) (hts _ fl_X5_count_101) rfl dX5_count_36 ?_
    exact ro_iret hx hb hr hlocks (by unfold aCount; rw [if_pos (by omega)]) dX5_count_39
  · refine lv_tableIn (tgt := 40) (off := 39) hx hb dX5_count_1 (by omega) (by omega) (by rw [c_1]; rfl) (by decide) ?_
    refine lv_aload_n hx hb dX5_count_40 rfl (lv_at hl 0 rfl) ?_
    refine an_get (ci := 5) (v := .ref (g.2.2 3)) (C := RX5) (T := TX5) (N := 6) hx hb hts iw_X5_count_X5 hown hK hP 0 rfl rfl 1 (by decide) (hts _ fl_X5_count_19) rfl dX5_count_41 ?_
    refine an_get (ci := 1) (v := .int (nI (L))) (C := RX1) (T := TX1) (N := 5) hx hb hts iw_X5_count_X1 hown hK hP 3 rfl rfl 3 (by decide) (hts _ fl_X5_count_82) rfl dX5_count_44 ?_
    exact ro_iret hx hb hr hlocks (by unfold aCount; rw [if_neg (by omega), if_pos (by omega)]) dX5_count_47
  · refine lv_tableIn (tgt := 48) (off := 47) hx hb dX5_count_1 (by omega) (by omega) (by rw [c_1]; rfl) (by decide) ?_
    refine lv_aload_n hx hb dX5_count_48 rfl (lv_at hl 0 rfl) ?_
    refine an_get (ci := 5) (v := .ref (g.2.2 3)) (C := RX5) (T := TX5) (N := 6) hx hb hts iw_X5_count_X5 hown hK hP 0 rfl rfl 1 (by decide) (hts _ fl_X5_count_19) rfl dX5_count_49 ?_
    refine an_get (ci := 1) (v := .int (nI (pt))) (C := RX1) (T := TX1) (N := 5) hx hb hts iw_X5_count_X1 hown hK hP 3 rfl rfl 4 (by decide) (hts _ fl_X5_count_145) rfl dX5_count_52 ?_
    exact ro_iret hx hb hr hlocks (by unfold aCount; rw [if_neg (by omega), if_neg (by omega), if_pos (by omega), hpt]) dX5_count_55
  · refine lv_tableIn (tgt := 56) (off := 55) hx hb dX5_count_1 (by omega) (by omega) (by rw [c_1]; rfl) (by decide) ?_
    refine lv_aload_n hx hb dX5_count_56 rfl (lv_at hl 0 rfl) ?_
    refine an_get (ci := 5) (v := .ref (g.2.2 3)) (C := RX5) (T := TX5) (N := 6) hx hb hts iw_X5_count_X5 hown hK hP 0 rfl rfl 1 (by decide) (hts _ fl_X5_count_19) rfl dX5_count_57 ?_
    refine ro_call (va_runV (As := []) (rest := []) ⟨hx, hb, hml, hown, hts⟩ (c_X1_broken l (g := g) (asked := asked) (values := values) (bytes := bytes) (starts := starts) (ends := ends) (L := L) (parts := nI (pt)) (texts := texts) (lengths := lengths) (feet := feet) (sorts := sorts) (nxt := nxt) (size := nI (nv)) (sums := sums) (oneSums := oneSums) (otherSums := otherSums) (byFeet := byFeet) (kept := kept) (over := over) (rcount := rcount) (rcust := rcust) (ssums := ssums) (ways := ways) (nextWays := nextWays) (reached := reached) (nextReached := nextReached) (found := found) (least := least) (greatest := greatest)  hL2) (cwV 0 hts gX5_count_X1_broken rfl rfl rfl (by decide +kernel) ⟨Nat.le_of_ble_eq_true rfl, Nat.le_of_ble_eq_true rfl⟩) (pre_V pW_bl (va_recv hK hP (ci := 1) (q0 := 3) rfl rfl) (fun U hU hW => pW_of hP hK hN hU hW)) rfl rfl hl.1 rfl (lv_room (Nat.le_of_ble_eq_true rfl)) dX5_count_60 ⟨Nat.zero_le _, Nat.zero_le _⟩) ?_
    exact ro_iret hx hb hr hlocks (by unfold aCount; rw [if_neg (by omega), if_neg (by omega), if_neg (by omega), if_pos (by omega)]) dX5_count_63
  · refine lv_tableOut (tgt := 64) hx hb dX5_count_1 (by omega) (by decide) ?_
    refine lv_iconst (v := ((-1 : Int32))) hx hb dX5_count_64 (by decide) ?_
    exact ro_iret hx hb hr hlocks (by unfold aCount; rw [if_neg (by omega), if_neg (by omega), if_neg (by omega), if_neg (by omega)]) dX5_count_65
theorem iw_X5_trace_X5 : ∀ w ∈ u_ws RX5 TX5 6, w ∈ wsX5_trace := by decide +kernel
theorem fl_X5_trace_48 : Cond.fieldLink RX5 48 (TX5 5).1 (TX5 5).2.1 (TX5 5).2.2.1 ∈ wsX5_trace := by decide +kernel
set_option maxHeartbeats 200000 in
set_option maxRecDepth 100000 in
theorem c_X5_trace (l : Launch) {g : GW} {asked : Int64} {values : Nat → Int32} {bytes : Nat → Int32} {starts : Nat → Int32} {ends : Nat → Int32} {length : Int32} {parts : Int32} {texts : Nat → Int32} {lengths : Nat → Int32} {feet : Nat → Int32} {sorts : Nat → Int32} {nxt : Nat → Int32} {size : Int32} {sums : Nat → Int32} {oneSums : Nat → Int32} {otherSums : Nat → Int32} {byFeet : Nat → Int64} {kept : Nat → Int64} {over : Int32} {rcount : Int32} {rcust : Int32} {ssums : Nat → Int32} {ways : Nat → Int64} {nextWays : Nat → Int64} {reached : Nat → Int64} {nextReached : Nat → Int64} {found : Int32} {least : Int32} {greatest : Int32}  : Met l yX5_trace wsX5_trace ({ frames := 0, cells := 0, slots := 0, locals := 0 }) (va_Pc ([.ref (g.2.2 0)]) (pW g (wX g asked values bytes starts ends length parts texts lengths feet sorts nxt size sums oneSums otherSums byFeet kept over rcount rcust ssums ways nextWays reached nextReached found least greatest))) (ro_Q (.long (asked))) 0 0 (fun _ => False) := by
  refine Met.ofW (cc := cX5_trace) (maxL := 1) (ret := (some .long)) (by decide) rfl ?_
  intro p e s m args below meth c s₁ B hml hv
  obtain ⟨rfl, hP, hK, hN⟩ := hv
  have hx := B.exec
  have hb := B.bytes
  have hr := B.returns
  have hts := atoms_spec (ws := wsX5_trace) B.pre
  have hown : s.vm.findClass RX5 = some m.cls := findClass_of_methodNamed B.named
  have hlocks := B.notSynchronized
  have hl := lv_entry ([.ref (g.2.2 0)]) (n := 1) (Nat.le_of_ble_eq_true rfl)
  rw [lg_entry_eq]
  generalize (lg_sl ([.ref (g.2.2 0)]) ++ List.replicate (1 - (lg_sl ([.ref (g.2.2 0)])).length) Slot.unset).toArray = ls at hl ⊢
  have hl : lv_has ls 1 [(0, .ref (g.2.2 0))] := hl
  refine lv_aload_n hx hb dX5_trace_0 rfl (lv_at hl 0 rfl) ?_
  refine an_get (ci := 5) (v := .long (asked)) (C := RX5) (T := TX5) (N := 6) hx hb hts iw_X5_trace_X5 hown hK hP 0 rfl rfl 5 (by decide) (hts _ fl_X5_trace_48) rfl dX5_trace_1 ?_
  exact ro_lret hx hb hr hlocks (rfl) dX5_trace_4
set_option maxHeartbeats 200000 in
set_option maxRecDepth 100000 in
theorem c_X5_borne (l : Launch) {g : GW} {asked : Int64} {values : Nat → Int32} {bytes : Nat → Int32} {starts : Nat → Int32} {ends : Nat → Int32} {L : Nat} {parts : Int32} {texts : Nat → Int32} {lengths : Nat → Int32} {feet : Nat → Int32} {sorts : Nat → Int32} {nxt : Nat → Int32} {size : Int32} {sums : Nat → Int32} {oneSums : Nat → Int32} {otherSums : Nat → Int32} {byFeet : Nat → Int64} {kept : Nat → Int64} {over : Int32} {rcount : Int32} {rcust : Int32} {ssums : Nat → Int32} {ways : Nat → Int64} {nextWays : Nat → Int64} {reached : Nat → Int64} {nextReached : Nat → Int64} {found : Int32} {least : Int32} {greatest : Int32} (year : Int32) (hL2 : L ≤ 40) : Met l yX5_borne wsX5_borne ({ frames := 5, cells := 0, slots := 0, locals := 114 }) (va_Pc ([.ref (g.2.2 0), .int (year)]) (pW g (wX g asked values bytes starts ends (nI (L)) parts texts lengths feet sorts nxt size sums oneSums otherSums byFeet kept over rcount rcust ssums ways nextWays reached nextReached found least greatest))) (ro_Q (.int (aBorne values bytes L year))) 0 0 (fun _ => False) := by
  refine Met.ofW (cc := cX5_borne) (maxL := 5) (ret := (some .int)) (by decide) rfl ?_
  intro p e s m args below meth c s₁ B hml hv
  obtain ⟨rfl, hP, hK, hN⟩ := hv
  have hx := B.exec
  have hb := B.bytes
  have hr := B.returns
  have hts := atoms_spec (ws := wsX5_borne) B.pre
  have hown : s.vm.findClass RX5 = some m.cls := findClass_of_methodNamed B.named
  have hlocks := B.notSynchronized
  have hl := lv_entry ([.ref (g.2.2 0), .int (year)]) (n := 5) (Nat.le_of_ble_eq_true rfl)
  rw [lg_entry_eq]
  generalize (lg_sl ([.ref (g.2.2 0), .int (year)]) ++ List.replicate (5 - (lg_sl ([.ref (g.2.2 0), .int (year)])).length) Slot.unset).toArray = ls at hl ⊢
  have hl : lv_has ls 5 [(0, .ref (g.2.2 0)), (1, .int (year))] := hl
  refine lv_iload_n hx hb dX5_borne_0 rfl (lv_at hl 1 rfl) ?_
  refine lv_if_lt (tgt := 10) hx hb dX5_borne_1 (by decide) (fun c_1 => ?_) (fun c_1 => ?_)
  · have c_1 := (cz_lt_i).mp c_1
    refine lv_iconst (v := ((-1 : Int32))) hx hb dX5_borne_10 (by decide) ?_
    exact ro_iret hx hb hr hlocks (by unfold aBorne; rw [if_neg (by omega)]) dX5_borne_11
  · have c_1 := (not_congr (cz_lt_i)).mp c_1
    refine lv_iload_n hx hb dX5_borne_4 rfl (lv_at hl 1 rfl) ?_
    refine lv_ldc hx hb hown (hts (.constant RX5 169 (60000)) (by decide +kernel)) dX5_borne_5 ?_
    refine ln_toi (y := nI 60000) (by decide) ?_
    refine lv_icmp_le (tgt := 12) hx hb dX5_borne_7 (by decide) (fun c_7 => ?_) (fun c_7 => ?_)
    · have c_7 := (cv_le_in (by omega)).mp c_7
      refine lv_iconst (v := (nI (0))) hx hb dX5_borne_12 (by decide) ?_
      refine lv_istore_n (lv' := [(2, .int (nI (0))), (0, .ref (g.2.2 0)), (1, .int (year))]) hx hb dX5_borne_13 rfl hl (by decide) rfl (fun ls hl => ?_)
      refine lv_iconst (v := (nI (0))) hx hb dX5_borne_14 (by decide) ?_
      refine lv_istore_n (lv' := [(3, .int (nI (0))), (2, .int (nI (0))), (0, .ref (g.2.2 0)), (1, .int (year))]) hx hb dX5_borne_15 rfl hl (by decide) rfl (fun ls hl => ?_)
      have lp_16 : ∀ (n : Nat) (cu : Nat), (cu ≤ 4) → 4 - cu < n → ∀ (ls : Array Slot), lv_has ls 5 [(0, .ref (g.2.2 0)), (1, .int (year)), (2, .int (bnc values bytes L year cu)), (3, .int (nI (cu)))] → W p l e (headSpec wsX5_borne ({ frames := 5, cells := 0, slots := 0, locals := 114 })).room s m (([.ref (g.2.2 0), .int (year)] : List Value).toArray) below meth c s.heap [] 0 0 (MQ below (ro_Q (.int (aBorne values bytes L year))) (([.ref (g.2.2 0), .int (year)] : List Value).toArray) s 0 0 (fun _ => False)) (F0 m 16 ls []) := by
        intro n
        induction n with
        | zero => intro cu hc hm; exact absurd hm (Nat.not_lt_zero _)
        | succ n ih_16 =>
          intro cu hc hm_16 ls hl
          refine lv_iload_n hx hb dX5_borne_16 rfl (lv_at hl 3 rfl) ?_
          refine lv_iconst (v := (nI (4))) hx hb dX5_borne_17 (by decide) ?_
          refine lv_icmp_ge (tgt := 64) hx hb dX5_borne_18 (by decide) (fun c_18 => ?_) (fun c_18 => ?_)
          · have c_18 := (cv_le_nn (by omega) (by omega)).mp c_18
            refine lv_iload_n hx hb dX5_borne_64 rfl (lv_at hl 2 rfl) ?_
            exact ro_iret hx hb hr hlocks (by unfold aBorne; rw [if_pos (by omega), show 4 = cu by omega]) dX5_borne_65
          · have c_18 := (not_congr (cv_le_nn (by omega) (by omega))).mp c_18
            refine lv_iconst (v := (nI (0))) hx hb dX5_borne_21 (by decide) ?_
            refine lv_istore (lv' := [(4, .int (nI (0))), (0, .ref (g.2.2 0)), (1, .int (year)), (2, .int (bnc values bytes L year cu)), (3, .int (nI (cu)))]) hx hb dX5_borne_22 hl (by decide) rfl (fun ls hl => ?_)
            have lp_24 : ∀ (n : Nat) (k : Nat), (k ≤ 3) → 3 - k < n → ∀ (ls : Array Slot), lv_has ls 5 [(0, .ref (g.2.2 0)), (1, .int (year)), (2, .int (bn1 values bytes L year cu (bnc values bytes L year cu) k)), (3, .int (nI (cu))), (4, .int (nI (k)))] → W p l e (headSpec wsX5_borne ({ frames := 5, cells := 0, slots := 0, locals := 114 })).room s m (([.ref (g.2.2 0), .int (year)] : List Value).toArray) below meth c s.heap [] 0 0 (MQ below (ro_Q (.int (aBorne values bytes L year))) (([.ref (g.2.2 0), .int (year)] : List Value).toArray) s 0 0 (fun _ => False)) (F0 m 24 ls []) := by
              intro n
              induction n with
              | zero => intro k hk hm; exact absurd hm (Nat.not_lt_zero _)
              | succ n ih_24 =>
                intro k hk hm_24 ls hl
                refine lv_iload hx hb dX5_borne_24 (lv_at hl 4 rfl) ?_
                refine lv_iconst (v := (nI (3))) hx hb dX5_borne_26 (by decide) ?_
                refine lv_icmp_ge (tgt := 58) hx hb dX5_borne_27 (by decide) (fun c_27 => ?_) (fun c_27 => ?_)
                · have c_27 := (cv_le_nn (by omega) (by omega)).mp c_27
                  refine lv_iinc (v := (nI (cu + 1))) (lv' := [(3, .int (nI (cu + 1))), (0, .ref (g.2.2 0)), (1, .int (year)), (2, .int (bn1 values bytes L year cu (bnc values bytes L year cu) k)), (4, .int (nI (k)))]) hx hb dX5_borne_58 hl (k := 3) rfl (nI_add _ 1) (by decide) rfl (fun ls hl => ?_)
                  refine lv_goto (tgt := 16) hx hb dX5_borne_61 (by decide) ?_
                  rw [show k = 3 by omega] at hl
                  exact ih_16 (cu + 1) (by omega) (by omega) ls (lv_sub hl [1, 2, 3, 0] rfl)
                · have c_27 := (not_congr (cv_le_nn (by omega) (by omega))).mp c_27
                  refine lv_aload_n hx hb dX5_borne_30 rfl (lv_at hl 0 rfl) ?_
                  refine lv_iload hx hb dX5_borne_31 (lv_at hl 4 rfl) ?_
                  refine lv_iload_n hx hb dX5_borne_33 rfl (lv_at hl 3 rfl) ?_
                  refine ro_call (va_runV (As := [.int (nI (k)), .int (nI (cu))]) (rest := []) ⟨hx, hb, hml, hown, hts⟩ (c_X5_sumOfDraft l (g := g) (asked := asked) (values := values) (bytes := bytes) (starts := starts) (ends := ends) (L := L) (parts := parts) (texts := texts) (lengths := lengths) (feet := feet) (sorts := sorts) (nxt := nxt) (size := size) (sums := sums) (oneSums := oneSums) (otherSums := otherSums) (byFeet := byFeet) (kept := kept) (over := over) (rcount := rcount) (rcust := rcust) (ssums := ssums) (ways := ways) (nextWays := nextWays) (reached := reached) (nextReached := nextReached) (found := found) (least := least) (greatest := greatest) (k) (cu) (by omega) (by omega) hL2) (cwV 2 hts gX5_borne_X5_sumOfDraft rfl rfl rfl (by decide +kernel) ⟨Nat.le_of_ble_eq_true rfl, Nat.le_of_ble_eq_true rfl⟩) (pre_V pW_bl (va_recv hK hP (ci := 5) (q0 := 0) rfl rfl) (fun U hU hW => pW_of hP hK hN hU hW)) rfl rfl hl.1 rfl (lv_room (Nat.le_of_ble_eq_true rfl)) dX5_borne_34 ⟨Nat.zero_le _, Nat.zero_le _⟩) ?_
                  refine lv_iload_n hx hb dX5_borne_37 rfl (lv_at hl 1 rfl) ?_
                  refine lv_icmp_ne (tgt := 52) hx hb dX5_borne_38 (by decide) (fun c_38 => ?_) (fun c_38 => ?_)
                  · have c_38 := (not_congr (cv_eq_ii )).mp c_38
                    refine lv_iinc (v := (nI (k + 1))) (lv' := [(4, .int (nI (k + 1))), (0, .ref (g.2.2 0)), (1, .int (year)), (2, .int (bn1 values bytes L year cu (bnc values bytes L year cu) k)), (3, .int (nI (cu)))]) hx hb dX5_borne_52 hl (k := 4) rfl (nI_add _ 1) (by decide) rfl (fun ls hl => ?_)
                    refine lv_goto (tgt := 24) hx hb dX5_borne_55 (by decide) ?_
                    rw [bn1_n c_38] at hl
                    exact ih_24 (k + 1) (by omega) (by omega) ls (lv_sub hl [1, 2, 3, 4, 0] rfl)
                  · have c_38 := (cv_eq_ii ).mp c_38
                    refine lv_iload_n hx hb dX5_borne_41 rfl (lv_at hl 2 rfl) ?_
                    refine lv_iconst (v := (nI (1))) hx hb dX5_borne_42 (by decide) ?_
                    refine lv_iconst (v := (nI (3))) hx hb dX5_borne_43 (by decide) ?_
                    refine lv_iload_n hx hb dX5_borne_44 rfl (lv_at hl 3 rfl) ?_
                    refine ln_imul hx hb dX5_borne_45 ?_
                    refine lv_iload hx hb dX5_borne_46 (lv_at hl 4 rfl) ?_
                    refine ln_iadd hx hb dX5_borne_48 ?_
                    refine lv_ishl hx hb dX5_borne_49 ?_
                    refine lv_ior hx hb dX5_borne_50 ?_
                    refine lv_istore_n (lv' := [(2, .int ((bn1 values bytes L year cu (bnc values bytes L year cu) k) ||| ((nI (1)) <<< ((nI ((3 * cu) + k)) &&& 31)))), (0, .ref (g.2.2 0)), (1, .int (year)), (3, .int (nI (cu))), (4, .int (nI (k)))]) hx hb dX5_borne_51 rfl hl (by decide) rfl (fun ls hl => ?_)
                    refine lv_iinc (v := (nI (k + 1))) (lv' := [(4, .int (nI (k + 1))), (2, .int ((bn1 values bytes L year cu (bnc values bytes L year cu) k) ||| ((nI (1)) <<< ((nI ((3 * cu) + k)) &&& 31)))), (0, .ref (g.2.2 0)), (1, .int (year)), (3, .int (nI (cu)))]) hx hb dX5_borne_52 hl (k := 4) rfl (nI_add _ 1) (by decide) rfl (fun ls hl => ?_)
                    refine lv_goto (tgt := 24) hx hb dX5_borne_55 (by decide) ?_
                    rw [bn1_y c_38] at hl
                    exact ih_24 (k + 1) (by omega) (by omega) ls (lv_sub hl [2, 3, 1, 4, 0] rfl)
            exact lp_24 (3 - (0) + 1) 0 (Nat.zero_le _) (Nat.lt_succ_self _) ls (lv_sub hl [1, 2, 3, 4, 0] rfl)
      exact lp_16 (4 - (0) + 1) 0 (Nat.zero_le _) (Nat.lt_succ_self _) ls (lv_sub hl [2, 3, 1, 0] rfl)
    · have c_7 := (not_congr (cv_le_in (by omega))).mp c_7
      refine lv_iconst (v := ((-1 : Int32))) hx hb dX5_borne_10 (by decide) ?_
      exact ro_iret hx hb hr hlocks (by unfold aBorne; rw [if_neg (by omega)]) dX5_borne_11
