abbrev dok (ft y z counting one two : Int32) : Prop := (1 ≤ ft.toInt ∧ ft.toInt ≤ 5) ∧ (0 ≤ y.toInt ∧ y.toInt ≤ 3000) ∧ (0 ≤ z.toInt ∧ z.toInt ≤ 3000) ∧ (0 ≤ counting.toInt ∧ counting.toInt < 3) ∧ (0 ≤ one.toInt ∧ one.toInt < 4) ∧ (0 ≤ two.toInt ∧ two.toInt < 4)
theorem iw_X3_ofTwoSums_X3 : ∀ w ∈ u_ws RX3 TX3 10, w ∈ wsX3_ofTwoSums := by decide +kernel
theorem fl_X3_ofTwoSums_15 : Cond.fieldLink RX3 15 (TX3 3).1 (TX3 3).2.1 (TX3 3).2.2.1 ∈ wsX3_ofTwoSums := by decide +kernel
theorem fl_X3_ofTwoSums_18 : Cond.fieldLink RX3 18 (TX3 4).1 (TX3 4).2.1 (TX3 4).2.2.1 ∈ wsX3_ofTwoSums := by decide +kernel
theorem fl_X3_ofTwoSums_32 : Cond.fieldLink RX3 32 (TX3 0).1 (TX3 0).2.1 (TX3 0).2.2.1 ∈ wsX3_ofTwoSums := by decide +kernel
theorem fl_X3_ofTwoSums_36 : Cond.fieldLink RX3 36 (TX3 1).1 (TX3 1).2.1 (TX3 1).2.2.1 ∈ wsX3_ofTwoSums := by decide +kernel
set_option maxHeartbeats 200000 in
set_option maxRecDepth 100000 in
theorem c_X3_ofTwoSums (l : Launch) {g : GW} {asked : Int64} {values : Nat → Int32} {bytes : Nat → Int32} {starts : Nat → Int32} {ends : Nat → Int32} {length : Int32} {parts : Int32} {texts : Nat → Int32} {lengths : Nat → Int32} {feet : Nat → Int32} {sorts : Nat → Int32} {nxt : Nat → Int32} {nv : Nat} {sums : Nat → Int32} {oneSums : Nat → Int32} {otherSums : Nat → Int32} {byFeet : Nat → Int64} {kept : Nat → Int64} {over : Int32} {rcount : Int32} {rcust : Int32} {ssums : Nat → Int32} {ways : Nat → Int64} {nextWays : Nat → Int64} {reached : Nat → Int64} {nextReached : Nat → Int64} {found : Int32} {least : Int32} {greatest : Int32} {sz : Nat} (ft : Nat) (y : Nat) (zz : Nat) (counting : Nat) (one : Nat) (two : Nat) (hft : ft ≤ 5) (hy : y ≤ 3000) (hz : zz ≤ 3000) (hc : counting < 3) (hk : one < 4) (hk2 : two < 4) (hnv : nv ≤ 10) (hle : okV lengths nv 1 8) (hfe : okV feet nv 1 3) (hso : okV sorts nv 0 2) (hva : okV values 104 0 1000) (hd : dW 25 g.2.2) : Met l yX3_ofTwoSums wsX3_ofTwoSums ({ frames := 20, cells := 0, slots := 0, locals := 800 }) (va_Pc ([.ref (g.2.2 13), .int (nI (ft)), .int (nI (y)), .int (nI (zz)), .int (nI (counting)), .int (nI (one)), .int (nI (two))]) (qW g (wX g asked values bytes starts ends length parts texts lengths feet sorts nxt (nI (nv)) sums oneSums otherSums byFeet kept over rcount rcust ssums ways nextWays reached nextReached found least greatest) sz)) (va_Ql (fun (r : Int64) (z : (Nat → Int32) × (Nat → Int32)) => r = lN (dwy feet sorts nxt (owf values texts lengths counting one) (owf values texts lengths counting two) nv ft 3 y zz)) (fun (z : (Nat → Int32) × (Nat → Int32)) (t : State) => va_P g.1 vwCl (wX g asked values bytes starts ends length parts texts lengths feet sorts nxt (nI (nv)) sums (z.1) (z.2) byFeet kept over rcount rcust ssums ways nextWays reached nextReached found least greatest) t.heap) (aW 25 g.2.2 sz)) 0 0 (aW 25 g.2.2 sz) := by
  refine Met.ofW (cc := cX3_ofTwoSums) (maxL := 7) (ret := (some .long)) (by decide) rfl ?_
  intro p e s m args below meth c s₁ B hml hv
  obtain ⟨rfl, hsz9, hP, hK, hN⟩ := hv
  subst hsz9
  have hx := B.exec
  have hb := B.bytes
  have hr := B.returns
  have hts := atoms_spec (ws := wsX3_ofTwoSums) B.pre
  have hown : s.vm.findClass RX3 = some m.cls := findClass_of_methodNamed B.named
  have hlocks := B.notSynchronized
  have hS : va_S (aW 25 g.2.2 s.heap.size) s.heap s.heap [] := va_S.rf
  have hl := lv_entry ([.ref (g.2.2 13), .int (nI (ft)), .int (nI (y)), .int (nI (zz)), .int (nI (counting)), .int (nI (one)), .int (nI (two))]) (n := 7) (Nat.le_of_ble_eq_true rfl)
  rw [lg_entry_eq]
  generalize (lg_sl ([.ref (g.2.2 13), .int (nI (ft)), .int (nI (y)), .int (nI (zz)), .int (nI (counting)), .int (nI (one)), .int (nI (two))]) ++ List.replicate (7 - (lg_sl ([.ref (g.2.2 13), .int (nI (ft)), .int (nI (y)), .int (nI (zz)), .int (nI (counting)), .int (nI (one)), .int (nI (two))])).length) Slot.unset).toArray = ls at hl ⊢
  have hl : lv_has ls 7 [(0, .ref (g.2.2 13)), (1, .int (nI (ft))), (2, .int (nI (y))), (3, .int (nI (zz))), (4, .int (nI (counting))), (5, .int (nI (one))), (6, .int (nI (two)))] := hl
  refine lv_aload_n hx hb dX3_ofTwoSums_0 rfl (lv_at hl 0 rfl) ?_
  refine an_get (ci := 3) (v := .ref (g.2.2 7)) (C := RX3) (T := TX3) (N := 10) hx hb hts iw_X3_ofTwoSums_X3 hown hK hP 13 rfl rfl 0 (by decide) (hts _ fl_X3_ofTwoSums_32) rfl dX3_ofTwoSums_1 ?_
  refine lv_aload_n hx hb dX3_ofTwoSums_4 rfl (lv_at hl 0 rfl) ?_
  refine an_get (ci := 3) (v := .ref (g.2.2 15)) (C := RX3) (T := TX3) (N := 10) hx hb hts iw_X3_ofTwoSums_X3 hown hK hP 13 rfl rfl 3 (by decide) (hts _ fl_X3_ofTwoSums_15) rfl dX3_ofTwoSums_5 ?_
  refine lv_aload_n hx hb dX3_ofTwoSums_8 rfl (lv_at hl 0 rfl) ?_
  refine an_get (ci := 3) (v := .ref (g.2.2 1)) (C := RX3) (T := TX3) (N := 10) hx hb hts iw_X3_ofTwoSums_X3 hown hK hP 13 rfl rfl 1 (by decide) (hts _ fl_X3_ofTwoSums_36) rfl dX3_ofTwoSums_9 ?_
  refine lv_iload hx hb dX3_ofTwoSums_12 (lv_at hl 4 rfl) ?_
  refine lv_iload hx hb dX3_ofTwoSums_14 (lv_at hl 5 rfl) ?_
  refine wr_callv (w := (fun (z : (Nat → Int32)) => (wX g asked values bytes starts ends length parts texts lengths feet sorts nxt (nI (nv)) sums z otherSums byFeet kept over rcount rcust ssums ways nextWays reached nextReached found least greatest))) (va_runV (As := [.ref (g.2.2 15), .ref (g.2.2 1), .int (nI (counting)), .int (nI (one))]) (rest := []) ⟨hx, hb, hml, hown, hts⟩ (c_X4_putSums_oneSums l (g := g) (asked := asked) (values := values) (bytes := bytes) (starts := starts) (ends := ends) (length := length) (parts := parts) (texts := texts) (lengths := lengths) (feet := feet) (sorts := sorts) (nxt := nxt) (nv := nv) (sums := sums) (oneSums := oneSums) (otherSums := otherSums) (byFeet := byFeet) (kept := kept) (over := over) (rcount := rcount) (rcust := rcust) (ssums := ssums) (ways := ways) (nextWays := nextWays) (reached := reached) (nextReached := nextReached) (found := found) (least := least) (greatest := greatest) (sz := _) (counting) (one) hc hk hnv hle hd) (cwV 4 hts gX3_ofTwoSums_X4_putSums rfl rfl rfl (by decide +kernel) ⟨Nat.le_of_ble_eq_true rfl, Nat.le_of_ble_eq_true rfl⟩) (pre_V qW_bl (va_recv hK hP (ci := 4) (q0 := 7) rfl rfl) (fun U hU hW => ⟨by rw [hU], pW_of hP hK hN hU hW⟩)) rfl rfl hl.1 rfl (lv_room (Nat.le_of_ble_eq_true rfl)) dX3_ofTwoSums_16 ⟨Nat.zero_le _, Nat.zero_le _⟩) hS (fun oneSums16 H locs hp16 hP hS => ?_)
  have hP : va_P g.1 vwCl (wX g asked values bytes starts ends length parts texts lengths feet sorts nxt (nI (nv)) sums oneSums16 otherSums byFeet kept over rcount rcust ssums ways nextWays reached nextReached found least greatest) H := hP
  refine lv_aload_n hx hb dX3_ofTwoSums_19 rfl (lv_at hl 0 rfl) ?_
  refine an_get (ci := 3) (v := .ref (g.2.2 7)) (C := RX3) (T := TX3) (N := 10) hx hb hts iw_X3_ofTwoSums_X3 hown hK hP 13 rfl rfl 0 (by decide) (hts _ fl_X3_ofTwoSums_32) rfl dX3_ofTwoSums_20 ?_
  refine lv_aload_n hx hb dX3_ofTwoSums_23 rfl (lv_at hl 0 rfl) ?_
  refine an_get (ci := 3) (v := .ref (g.2.2 16)) (C := RX3) (T := TX3) (N := 10) hx hb hts iw_X3_ofTwoSums_X3 hown hK hP 13 rfl rfl 4 (by decide) (hts _ fl_X3_ofTwoSums_18) rfl dX3_ofTwoSums_24 ?_
  refine lv_aload_n hx hb dX3_ofTwoSums_27 rfl (lv_at hl 0 rfl) ?_
  refine an_get (ci := 3) (v := .ref (g.2.2 1)) (C := RX3) (T := TX3) (N := 10) hx hb hts iw_X3_ofTwoSums_X3 hown hK hP 13 rfl rfl 1 (by decide) (hts _ fl_X3_ofTwoSums_36) rfl dX3_ofTwoSums_28 ?_
  refine lv_iload hx hb dX3_ofTwoSums_31 (lv_at hl 4 rfl) ?_
  refine lv_iload hx hb dX3_ofTwoSums_33 (lv_at hl 6 rfl) ?_
  refine wr_callv (w := (fun (z : (Nat → Int32)) => (wX g asked values bytes starts ends length parts texts lengths feet sorts nxt (nI (nv)) sums oneSums16 z byFeet kept over rcount rcust ssums ways nextWays reached nextReached found least greatest))) (va_runV (As := [.ref (g.2.2 16), .ref (g.2.2 1), .int (nI (counting)), .int (nI (two))]) (rest := []) ⟨hx, hb, hml, hown, hts⟩ (c_X4_putSums_otherSums l (g := g) (asked := asked) (values := values) (bytes := bytes) (starts := starts) (ends := ends) (length := length) (parts := parts) (texts := texts) (lengths := lengths) (feet := feet) (sorts := sorts) (nxt := nxt) (nv := nv) (sums := sums) (oneSums := oneSums16) (otherSums := otherSums) (byFeet := byFeet) (kept := kept) (over := over) (rcount := rcount) (rcust := rcust) (ssums := ssums) (ways := ways) (nextWays := nextWays) (reached := reached) (nextReached := nextReached) (found := found) (least := least) (greatest := greatest) (sz := _) (counting) (two) hc hk2 hnv hle hd) (cwV 4 hts gX3_ofTwoSums_X4_putSums rfl rfl rfl (by decide +kernel) ⟨Nat.le_of_ble_eq_true rfl, Nat.le_of_ble_eq_true rfl⟩) (pre_V qW_bl (va_recv hK hP (ci := 4) (q0 := 7) rfl rfl) (fun U hU hW => ⟨by rw [hU], pW_of hP hK hN hU hW⟩)) rfl rfl hl.1 rfl (lv_room (Nat.le_of_ble_eq_true rfl)) dX3_ofTwoSums_35 ⟨Nat.zero_le _, Nat.zero_le _⟩) hS (fun otherSums35 H locs hp35 hP hS => ?_)
  have hP : va_P g.1 vwCl (wX g asked values bytes starts ends length parts texts lengths feet sorts nxt (nI (nv)) sums oneSums16 otherSums35 byFeet kept over rcount rcust ssums ways nextWays reached nextReached found least greatest) H := hP
  have hq1 : ∀ v, v < nv → oneSums16 v = nI ((owf values texts lengths counting one) v) ∧ (owf values texts lengths counting one) v ≤ 8000 := fun v hv => ⟨(hp16 v hv).trans (vsm_ok hva hk hle hv).1, (vsm_ok (tx := texts) (n := counting) hva hk hle hv).2⟩
  have hq2 : ∀ v, v < nv → otherSums35 v = nI ((owf values texts lengths counting two) v) ∧ (owf values texts lengths counting two) v ≤ 8000 := fun v hv => ⟨(hp35 v hv).trans (vsm_ok hva hk2 hle hv).1, (vsm_ok (tx := texts) (n := counting) hva hk2 hle hv).2⟩
  refine lv_aload_n hx hb dX3_ofTwoSums_38 rfl (lv_at hl 0 rfl) ?_
  refine lv_iconst (v := (nI (3))) hx hb dX3_ofTwoSums_39 (by decide) ?_
  refine lv_iload_n hx hb dX3_ofTwoSums_40 rfl (lv_at hl 1 rfl) ?_
  refine lv_iload_n hx hb dX3_ofTwoSums_41 rfl (lv_at hl 2 rfl) ?_
  refine lv_iload_n hx hb dX3_ofTwoSums_42 rfl (lv_at hl 3 rfl) ?_
  refine ro_call (va_runV (As := [.int (nI (3)), .int (nI (ft)), .int (nI (y)), .int (nI (zz))]) (rest := []) ⟨hx, hb, hml, hown, hts⟩ (kd_all l (g := g) (asked := asked) (values := values) (bytes := bytes) (starts := starts) (ends := ends) (length := length) (parts := parts) (texts := texts) (lengths := lengths) (feet := feet) (sorts := sorts) (nxt := nxt) (sums := sums) (oneSums := oneSums16) (otherSums := otherSums35) (byFeet := byFeet) (kept := kept) (over := over) (rcount := rcount) (rcust := rcust) (ssums := ssums) (ways := ways) (nextWays := nextWays) (reached := reached) (nextReached := nextReached) (found := found) (least := least) (greatest := greatest) (nv := nv) (owf values texts lengths counting one) (owf values texts lengths counting two) hnv hfe hso hq1 hq2 (ft + 2) (ft + 1) (by omega) 3 (nI ft) (nI y) (nI zz) (by decide) (by rw [nI_toInt (by omega)]; omega) (by rw [nI_toInt (by omega)]; omega) (by rw [nI_toInt (by omega)]; omega) (by rw [nI_toInt (by omega)]; omega)) (cwV 4 hts gX3_ofTwoSums_X3_doubleWaysOn rfl rfl rfl (by decide +kernel) ⟨show ft + 1 + 1 + 1 ≤ 20 by omega, show 8 + (8 + 11) + (60 * (ft + 1) + 60) ≤ 800 by omega⟩) (pre_V pW_bl (va_recv hK hP (ci := 3) (q0 := 13) rfl rfl) (fun U hU hW => pW_of hP hK hN hU hW)) rfl rfl hl.1 rfl (lv_room (Nat.le_of_ble_eq_true rfl)) dX3_ofTwoSums_43 ⟨Nat.zero_le _, Nat.zero_le _⟩) ?_
  refine ln_tol (y := (lN (dwy feet sorts nxt (owf values texts lengths counting one) (owf values texts lengths counting two) nv ft 3 y zz))) (congrArg lN (dwz_n (by omega) (by omega) (by omega))) ?_
  exact wr_lret (oneSums16, otherSums35) hx hb hr hlocks (rfl) (fun t ht => show va_P g.1 vwCl (wX g asked values bytes starts ends length parts texts lengths feet sorts nxt (nI (nv)) sums oneSums16 otherSums35 byFeet kept over rcount rcust ssums ways nextWays reached nextReached found least greatest) t.heap by rw [ht]; exact hP) hS dX3_ofTwoSums_46
theorem iw_X5_doubles_X5 : ∀ w ∈ u_ws RX5 TX5 6, w ∈ wsX5_doubles := by decide +kernel
theorem fl_X5_doubles_35 : Cond.fieldLink RX5 35 (TX5 3).1 (TX5 3).2.1 (TX5 3).2.2.1 ∈ wsX5_doubles := by decide +kernel
set_option maxHeartbeats 200000 in
set_option maxRecDepth 100000 in
theorem c_X5_doubles (l : Launch) {g : GW} {asked : Int64} {values : Nat → Int32} {bytes : Nat → Int32} {starts : Nat → Int32} {ends : Nat → Int32} {length : Int32} {parts : Int32} {texts : Nat → Int32} {lengths : Nat → Int32} {feet : Nat → Int32} {sorts : Nat → Int32} {nxt : Nat → Int32} {nv : Nat} {sums : Nat → Int32} {oneSums : Nat → Int32} {otherSums : Nat → Int32} {byFeet : Nat → Int64} {kept : Nat → Int64} {over : Int32} {rcount : Int32} {rcust : Int32} {ssums : Nat → Int32} {ways : Nat → Int64} {nextWays : Nat → Int64} {reached : Nat → Int64} {nextReached : Nat → Int64} {found : Int32} {least : Int32} {greatest : Int32} {sz : Nat} (ft : Int32) (y : Int32) (zz : Int32) (counting : Int32) (one : Int32) (two : Int32) (hnv : nv ≤ 10) (hle : okV lengths nv 1 8) (hfe : okV feet nv 1 3) (hso : okV sorts nv 0 2) (hva : okV values 104 0 1000) (hd : dW 25 g.2.2) : Met l yX5_doubles wsX5_doubles ({ frames := 21, cells := 0, slots := 0, locals := 826 }) (va_Pc ([.ref (g.2.2 0), .int (ft), .int (y), .int (zz), .int (counting), .int (one), .int (two)]) (qW g (wX g asked values bytes starts ends length parts texts lengths feet sorts nxt (nI (nv)) sums oneSums otherSums byFeet kept over rcount rcust ssums ways nextWays reached nextReached found least greatest) sz)) (va_Ql (fun (r : Int64) (z : (Nat → Int32) × (Nat → Int32)) => r = if dok ft y zz counting one two then lN (dwy feet sorts nxt (owf values texts lengths (tn counting) (tn one)) (owf values texts lengths (tn counting) (tn two)) nv (tn ft) 3 (tn y) (tn zz)) else (-1 : Int64)) (fun (z : (Nat → Int32) × (Nat → Int32)) (t : State) => va_P g.1 vwCl (wX g asked values bytes starts ends length parts texts lengths feet sorts nxt (nI (nv)) sums (z.1) (z.2) byFeet kept over rcount rcust ssums ways nextWays reached nextReached found least greatest) t.heap) (aW 25 g.2.2 sz)) 0 0 (aW 25 g.2.2 sz) := by
  refine Met.ofW (cc := cX5_doubles) (maxL := 7) (ret := (some .long)) (by decide) rfl ?_
  intro p e s m args below meth c s₁ B hml hv
  obtain ⟨rfl, hsz9, hP, hK, hN⟩ := hv
  subst hsz9
  have hx := B.exec
  have hb := B.bytes
  have hr := B.returns
  have hts := atoms_spec (ws := wsX5_doubles) B.pre
  have hown : s.vm.findClass RX5 = some m.cls := findClass_of_methodNamed B.named
  have hlocks := B.notSynchronized
  have hS : va_S (aW 25 g.2.2 s.heap.size) s.heap s.heap [] := va_S.rf
  have hl := lv_entry ([.ref (g.2.2 0), .int (ft), .int (y), .int (zz), .int (counting), .int (one), .int (two)]) (n := 7) (Nat.le_of_ble_eq_true rfl)
  rw [lg_entry_eq]
  generalize (lg_sl ([.ref (g.2.2 0), .int (ft), .int (y), .int (zz), .int (counting), .int (one), .int (two)]) ++ List.replicate (7 - (lg_sl ([.ref (g.2.2 0), .int (ft), .int (y), .int (zz), .int (counting), .int (one), .int (two)])).length) Slot.unset).toArray = ls at hl ⊢
  have hl : lv_has ls 7 [(0, .ref (g.2.2 0)), (1, .int (ft)), (2, .int (y)), (3, .int (zz)), (4, .int (counting)), (5, .int (one)), (6, .int (two))] := hl
  refine lv_iload_n hx hb dX5_doubles_0 rfl (lv_at hl 1 rfl) ?_
  refine lv_iconst (v := (nI (5))) hx hb dX5_doubles_1 (by decide) ?_
  refine lv_icmp_gt (tgt := 29) hx hb dX5_doubles_2 (by decide) (fun c_2 => ?_) (fun c_2 => ?_)
  · have c_2 := (cv_lt_ni (by omega)).mp c_2
    refine lv_ldc2 hx hb hown (hts (.constantLong RX5 123 (-1)) (by decide +kernel)) dX5_doubles_29 ?_
    exact wr_lret (oneSums, otherSums) hx hb hr hlocks (by rw [if_neg (by omega)]) (fun t ht => show va_P g.1 vwCl (wX g asked values bytes starts ends length parts texts lengths feet sorts nxt (nI (nv)) sums oneSums otherSums byFeet kept over rcount rcust ssums ways nextWays reached nextReached found least greatest) t.heap by rw [ht]; exact hP) hS dX5_doubles_32
  · have c_2 := (not_congr (cv_lt_ni (by omega))).mp c_2
    refine lv_iload_n hx hb dX5_doubles_5 rfl (lv_at hl 1 rfl) ?_
    refine lv_iload_n hx hb dX5_doubles_6 rfl (lv_at hl 2 rfl) ?_
    refine lv_iload hx hb dX5_doubles_7 (lv_at hl 4 rfl) ?_
    refine lv_iload hx hb dX5_doubles_9 (lv_at hl 5 rfl) ?_
    refine ro_call (va_runS (As := [.int (ft), .int (y), .int (counting), .int (one)]) (rest := []) ⟨hx, hb, hml, hown, hts⟩ (c_X5_isLineAsked l (ft) (y) (counting) (one)) (va_cwS 4 hts gX5_doubles_X5_isLineAsked rfl rfl rfl (by decide +kernel) ⟨Nat.le_of_ble_eq_true rfl, Nat.le_of_ble_eq_true rfl⟩) pre_0 rfl rfl hl.1 rfl (lv_room (Nat.le_of_ble_eq_true rfl)) dX5_doubles_11 ⟨Nat.zero_le _, Nat.zero_le _⟩) ?_
    refine lv_if_eq (tgt := 29) hx hb dX5_doubles_14 (by decide) (fun c_14 => ?_) (fun c_14 => ?_)
    · have c_14 := if_n c_14
      refine lv_ldc2 hx hb hown (hts (.constantLong RX5 123 (-1)) (by decide +kernel)) dX5_doubles_29 ?_
      exact wr_lret (oneSums, otherSums) hx hb hr hlocks (by rw [if_neg (by omega)]) (fun t ht => show va_P g.1 vwCl (wX g asked values bytes starts ends length parts texts lengths feet sorts nxt (nI (nv)) sums oneSums otherSums byFeet kept over rcount rcust ssums ways nextWays reached nextReached found least greatest) t.heap by rw [ht]; exact hP) hS dX5_doubles_32
    · have c_14 := if_p c_14
      refine lv_iload_n hx hb dX5_doubles_17 rfl (lv_at hl 1 rfl) ?_
      refine lv_iload_n hx hb dX5_doubles_18 rfl (lv_at hl 3 rfl) ?_
      refine lv_iload hx hb dX5_doubles_19 (lv_at hl 4 rfl) ?_
      refine lv_iload hx hb dX5_doubles_21 (lv_at hl 6 rfl) ?_
      refine ro_call (va_runS (As := [.int (ft), .int (zz), .int (counting), .int (two)]) (rest := []) ⟨hx, hb, hml, hown, hts⟩ (c_X5_isLineAsked l (ft) (zz) (counting) (two)) (va_cwS 4 hts gX5_doubles_X5_isLineAsked rfl rfl rfl (by decide +kernel) ⟨Nat.le_of_ble_eq_true rfl, Nat.le_of_ble_eq_true rfl⟩) pre_0 rfl rfl hl.1 rfl (lv_room (Nat.le_of_ble_eq_true rfl)) dX5_doubles_23 ⟨Nat.zero_le _, Nat.zero_le _⟩) ?_
      refine lv_if_ne (tgt := 33) hx hb dX5_doubles_26 (by decide) (fun c_26 => ?_) (fun c_26 => ?_)
      · have c_26 := if_p c_26
        obtain ⟨⟨h11, h12⟩, ⟨h13, h14⟩, ⟨h15, h16⟩, h17, h18⟩ := c_14
        obtain ⟨h21, ⟨h23, h24⟩, h25, h27, h28⟩ := c_26
        have cA : dok ft y zz counting one two := ⟨⟨h11, by omega⟩, ⟨h13, h14⟩, ⟨h23, h24⟩, ⟨h15, h16⟩, ⟨h17, h18⟩, h27, h28⟩
        obtain ⟨f0, hf0, rfl⟩ := iN_of (x := ft) (b := 6) (by omega) (by omega)
        obtain ⟨y0, hy0, rfl⟩ := iN_of (x := y) (b := 3001) (by omega) (by omega)
        obtain ⟨z0, hz0, rfl⟩ := iN_of (x := zz) (b := 3001) (by omega) (by omega)
        obtain ⟨n9, hn9, rfl⟩ := iN_of (b := 3) h15 h16
        obtain ⟨k9, hk9, rfl⟩ := iN_of (b := 4) h17 h18
        obtain ⟨k8, hk8, rfl⟩ := iN_of (b := 4) h27 h28
        have e0 : tn (nI f0) = f0 := tn_nI (by omega)
        have e1 : tn (nI y0) = y0 := tn_nI (by omega)
        have e2 : tn (nI z0) = z0 := tn_nI (by omega)
        have e3 : tn (nI n9) = n9 := tn_nI (by omega)
        have e4 : tn (nI k9) = k9 := tn_nI (by omega)
        have e5 : tn (nI k8) = k8 := tn_nI (by omega)
        refine lv_aload_n hx hb dX5_doubles_33 rfl (lv_at hl 0 rfl) ?_
        refine an_get (ci := 5) (v := .ref (g.2.2 13)) (C := RX5) (T := TX5) (N := 6) hx hb hts iw_X5_doubles_X5 hown hK hP 0 rfl rfl 3 (by decide) (hts _ fl_X5_doubles_35) rfl dX5_doubles_34 ?_
        refine lv_iload_n hx hb dX5_doubles_37 rfl (lv_at hl 1 rfl) ?_
        refine lv_iload_n hx hb dX5_doubles_38 rfl (lv_at hl 2 rfl) ?_
        refine lv_iload_n hx hb dX5_doubles_39 rfl (lv_at hl 3 rfl) ?_
        refine lv_iload hx hb dX5_doubles_40 (lv_at hl 4 rfl) ?_
        refine lv_iload hx hb dX5_doubles_42 (lv_at hl 5 rfl) ?_
        refine lv_iload hx hb dX5_doubles_44 (lv_at hl 6 rfl) ?_
        refine wr_calll (w := (fun (z : (Nat → Int32) × (Nat → Int32)) => (wX g asked values bytes starts ends length parts texts lengths feet sorts nxt (nI (nv)) sums (z.1) (z.2) byFeet kept over rcount rcust ssums ways nextWays reached nextReached found least greatest))) (va_runV (As := [.int (nI (f0)), .int (nI (y0)), .int (nI (z0)), .int (nI (n9)), .int (nI (k9)), .int (nI (k8))]) (rest := []) ⟨hx, hb, hml, hown, hts⟩ (c_X3_ofTwoSums l (g := g) (asked := asked) (values := values) (bytes := bytes) (starts := starts) (ends := ends) (length := length) (parts := parts) (texts := texts) (lengths := lengths) (feet := feet) (sorts := sorts) (nxt := nxt) (nv := nv) (sums := sums) (oneSums := oneSums) (otherSums := otherSums) (byFeet := byFeet) (kept := kept) (over := over) (rcount := rcount) (rcust := rcust) (ssums := ssums) (ways := ways) (nextWays := nextWays) (reached := reached) (nextReached := nextReached) (found := found) (least := least) (greatest := greatest) (sz := _) (f0) (y0) (z0) (n9) (k9) (k8) (by omega) (by omega) (by omega) hn9 hk9 hk8 hnv hle hfe hso hva hd) (cwV 6 hts gX5_doubles_X3_ofTwoSums rfl rfl rfl (by decide +kernel) ⟨Nat.le_of_ble_eq_true rfl, Nat.le_of_ble_eq_true rfl⟩) (pre_V qW_bl (va_recv hK hP (ci := 3) (q0 := 13) rfl rfl) (fun U hU hW => ⟨by rw [hU], pW_of hP hK hN hU hW⟩)) rfl rfl hl.1 rfl (lv_room (Nat.le_of_ble_eq_true rfl)) dX5_doubles_46 ⟨Nat.zero_le _, Nat.zero_le _⟩) hS (fun r46 z46 H locs hp46 hP hS => ?_)
        obtain ⟨oneSums46, otherSums46⟩ := z46
        try dsimp only at hp46
        have hP : va_P g.1 vwCl (wX g asked values bytes starts ends length parts texts lengths feet sorts nxt (nI (nv)) sums oneSums46 otherSums46 byFeet kept over rcount rcust ssums ways nextWays reached nextReached found least greatest) H := hP
        exact wr_lret (oneSums46, otherSums46) hx hb hr hlocks (by rw [if_pos cA, e0, e1, e2, e3, e4, e5]; exact hp46) (fun t ht => show va_P g.1 vwCl (wX g asked values bytes starts ends length parts texts lengths feet sorts nxt (nI (nv)) sums oneSums46 otherSums46 byFeet kept over rcount rcust ssums ways nextWays reached nextReached found least greatest) t.heap by rw [ht]; exact hP) hS dX5_doubles_49
      · have c_26 := if_n c_26
        refine lv_ldc2 hx hb hown (hts (.constantLong RX5 123 (-1)) (by decide +kernel)) dX5_doubles_29 ?_
        exact wr_lret (oneSums, otherSums) hx hb hr hlocks (by rw [if_neg (by omega)]) (fun t ht => show va_P g.1 vwCl (wX g asked values bytes starts ends length parts texts lengths feet sorts nxt (nI (nv)) sums oneSums otherSums byFeet kept over rcount rcust ssums ways nextWays reached nextReached found least greatest) t.heap by rw [ht]; exact hP) hS dX5_doubles_32
