theorem iw_X0_replace_X0 : ∀ w ∈ u_ws RX0 TX0 1, w ∈ wsX0_replace := by decide +kernel
theorem fl_X0_replace_9 : Cond.fieldLink RX0 9 (TX0 0).1 (TX0 0).2.1 (TX0 0).2.2.1 ∈ wsX0_replace := by decide +kernel
set_option maxHeartbeats 200000 in
set_option maxRecDepth 100000 in
theorem c_X0_replace (l : Launch) {g : GW} {asked : Int64} {values : Nat → Int32} {bytes : Nat → Int32} {starts : Nat → Int32} {ends : Nat → Int32} {length : Int32} {parts : Int32} {texts : Nat → Int32} {lengths : Nat → Int32} {feet : Nat → Int32} {sorts : Nat → Int32} {nxt : Nat → Int32} {size : Int32} {sums : Nat → Int32} {oneSums : Nat → Int32} {otherSums : Nat → Int32} {byFeet : Nat → Int64} {kept : Nat → Int64} {over : Int32} {rcount : Int32} {rcust : Int32} {ssums : Nat → Int32} {ways : Nat → Int64} {nextWays : Nat → Int64} {reached : Nat → Int64} {nextReached : Nat → Int64} {found : Int32} {least : Int32} {greatest : Int32} {sz : Nat} (custom : Nat) (letter : Nat) (v : Int32) (hc : custom < 4) (h1 : 97 ≤ letter) (h2 : letter ≤ 122) (hd : dW 25 g.2.2) : Met l yX0_replace wsX0_replace ({ frames := 0, cells := 0, slots := 0, locals := 0 }) (va_Pc ([.ref (g.2.2 1), .int (nI (custom)), .int (nI (letter)), .int (v)]) (qW g (wX g asked values bytes starts ends length parts texts lengths feet sorts nxt size sums oneSums otherSums byFeet kept over rcount rcust ssums ways nextWays reached nextReached found least greatest) sz)) (va_Qi (fun (r : Int32) (z : (Nat → Int32)) => r = values (26 * custom + (letter - 97)) ∧ z = upd values (26 * custom + (letter - 97)) v) (fun (z : (Nat → Int32)) (t : State) => va_P g.1 vwCl (wX g asked z bytes starts ends length parts texts lengths feet sorts nxt size sums oneSums otherSums byFeet kept over rcount rcust ssums ways nextWays reached nextReached found least greatest) t.heap) (aW 25 g.2.2 sz)) 0 0 (aW 25 g.2.2 sz) := by
  refine Met.ofW (cc := cX0_replace) (maxL := 6) (ret := (some .int)) (by decide) rfl ?_
  intro p e s m args below meth c s₁ B hml hv
  obtain ⟨rfl, hsz9, hP, hK, hN⟩ := hv
  subst hsz9
  have hx := B.exec
  have hb := B.bytes
  have hr := B.returns
  have hts := atoms_spec (ws := wsX0_replace) B.pre
  have hown : s.vm.findClass RX0 = some m.cls := findClass_of_methodNamed B.named
  have hlocks := B.notSynchronized
  have hS : va_S (aW 25 g.2.2 s.heap.size) s.heap s.heap [] := va_S.rf
  have hl := lv_entry ([.ref (g.2.2 1), .int (nI (custom)), .int (nI (letter)), .int (v)]) (n := 6) (Nat.le_of_ble_eq_true rfl)
  rw [lg_entry_eq]
  generalize (lg_sl ([.ref (g.2.2 1), .int (nI (custom)), .int (nI (letter)), .int (v)]) ++ List.replicate (6 - (lg_sl ([.ref (g.2.2 1), .int (nI (custom)), .int (nI (letter)), .int (v)])).length) Slot.unset).toArray = ls at hl ⊢
  have hl : lv_has ls 6 [(0, .ref (g.2.2 1)), (1, .int (nI (custom))), (2, .int (nI (letter))), (3, .int (v))] := hl
  refine lv_iload_n hx hb dX0_replace_0 rfl (lv_at hl 1 rfl) ?_
  refine lv_bipush (v := (nI (26))) hx hb dX0_replace_1 (by decide) ?_
  refine ln_imul hx hb dX0_replace_3 ?_
  refine lv_iload_n hx hb dX0_replace_4 rfl (lv_at hl 2 rfl) ?_
  refine ln_iadd hx hb dX0_replace_5 ?_
  refine lv_bipush (v := (nI (97))) hx hb dX0_replace_6 (by decide) ?_
  refine ln_isub hx hb (by omega) dX0_replace_8 ?_
  refine lv_istore (lv' := [(4, .int (nI (((custom * 26) + letter) - 97))), (0, .ref (g.2.2 1)), (1, .int (nI (custom))), (2, .int (nI (letter))), (3, .int (v))]) hx hb dX0_replace_9 hl (by decide) rfl (fun ls hl => ?_)
  refine lv_aload_n hx hb dX0_replace_11 rfl (lv_at hl 1 rfl) ?_
  refine an_get (ci := 0) (v := .ref (g.2.2 2)) (C := RX0) (T := TX0) (N := 1) hx hb hts iw_X0_replace_X0 hown hK hP 1 rfl rfl 0 (by decide) (hts _ fl_X0_replace_9) rfl dX0_replace_12 ?_
  refine lv_iload hx hb dX0_replace_15 (lv_at hl 0 rfl) ?_
  refine an_iald (f := values) hx hb hK hP 2 0 rfl rfl (by decide) (by omega) dX0_replace_17 ?_
  refine lv_istore (lv' := [(5, .int (values (((custom * 26) + letter) - 97))), (4, .int (nI (((custom * 26) + letter) - 97))), (0, .ref (g.2.2 1)), (1, .int (nI (custom))), (2, .int (nI (letter))), (3, .int (v))]) hx hb dX0_replace_18 hl (by decide) rfl (fun ls hl => ?_)
  refine lv_aload_n hx hb dX0_replace_20 rfl (lv_at hl 2 rfl) ?_
  refine an_get (ci := 0) (v := .ref (g.2.2 2)) (C := RX0) (T := TX0) (N := 1) hx hb hts iw_X0_replace_X0 hown hK hP 1 rfl rfl 0 (by decide) (hts _ fl_X0_replace_9) rfl dX0_replace_21 ?_
  refine lv_iload hx hb dX0_replace_24 (lv_at hl 1 rfl) ?_
  refine lv_iload_n hx hb dX0_replace_26 rfl (lv_at hl 5 rfl) ?_
  refine an_iast (f := values) (ws' := (wX g asked (upd (values) (((custom * 26) + letter) - 97) (v)) bytes starts ends length parts texts lengths feet sorts nxt size sums oneSums otherSums byFeet kept over rcount rcust ssums ways nextWays reached nextReached found least greatest)) hx hb hK hP (wX_D hd) hS 2 0 rfl rfl (by decide) (by omega) rfl dX0_replace_27 (fun H locs hP hS => ?_)
  refine lv_iload hx hb dX0_replace_28 (lv_at hl 0 rfl) ?_
  exact wr_iret (upd (values) (((custom * 26) + letter) - 97) (v)) hx hb hr hlocks (by rw [show 26 * custom + (letter - 97) = custom * 26 + letter - 97 by omega]; exact ⟨rfl, rfl⟩) (fun t ht => show va_P g.1 vwCl (wX g asked (upd (values) (((custom * 26) + letter) - 97) (v)) bytes starts ends length parts texts lengths feet sorts nxt size sums oneSums otherSums byFeet kept over rcount rcust ssums ways nextWays reached nextReached found least greatest) t.heap by rw [ht]; exact hP) hS dX0_replace_30
theorem iw_X3_forget_X3 : ∀ w ∈ u_ws RX3 TX3 10, w ∈ wsX3_forget := by decide +kernel
theorem fl_X3_forget_28 : Cond.fieldLink RX3 28 (TX3 7).1 (TX3 7).2.1 (TX3 7).2.2.1 ∈ wsX3_forget := by decide +kernel
set_option maxHeartbeats 200000 in
set_option maxRecDepth 100000 in
theorem c_X3_forget (l : Launch) {g : GW} {asked : Int64} {values : Nat → Int32} {bytes : Nat → Int32} {starts : Nat → Int32} {ends : Nat → Int32} {length : Int32} {parts : Int32} {texts : Nat → Int32} {lengths : Nat → Int32} {feet : Nat → Int32} {sorts : Nat → Int32} {nxt : Nat → Int32} {size : Int32} {sums : Nat → Int32} {oneSums : Nat → Int32} {otherSums : Nat → Int32} {byFeet : Nat → Int64} {kept : Nat → Int64} {over : Int32} {rcount : Int32} {rcust : Int32} {ssums : Nat → Int32} {ways : Nat → Int64} {nextWays : Nat → Int64} {reached : Nat → Int64} {nextReached : Nat → Int64} {found : Int32} {least : Int32} {greatest : Int32} {sz : Nat}  (hd : dW 25 g.2.2) : Met l yX3_forget wsX3_forget ({ frames := 0, cells := 0, slots := 0, locals := 0 }) (va_Pc ([.ref (g.2.2 13)]) (qW g (wX g asked values bytes starts ends length parts texts lengths feet sorts nxt size sums oneSums otherSums byFeet kept over rcount rcust ssums ways nextWays reached nextReached found least greatest) sz)) (va_Qv (fun (z : Int32) => z = nI 1) (fun (z : Int32) (t : State) => va_P g.1 vwCl (wX g asked values bytes starts ends length parts texts lengths feet sorts nxt size sums oneSums otherSums byFeet kept z rcount rcust ssums ways nextWays reached nextReached found least greatest) t.heap) (aW 25 g.2.2 sz)) 0 0 (aW 25 g.2.2 sz) := by
  refine Met.ofW (cc := cX3_forget) (maxL := 1) (ret := none) (by decide) rfl ?_
  intro p e s m args below meth c s₁ B hml hv
  obtain ⟨rfl, hsz9, hP, hK, hN⟩ := hv
  subst hsz9
  have hx := B.exec
  have hb := B.bytes
  have hr := B.returns
  have hts := atoms_spec (ws := wsX3_forget) B.pre
  have hown : s.vm.findClass RX3 = some m.cls := findClass_of_methodNamed B.named
  have hlocks := B.notSynchronized
  have hS : va_S (aW 25 g.2.2 s.heap.size) s.heap s.heap [] := va_S.rf
  have hl := lv_entry ([.ref (g.2.2 13)]) (n := 1) (Nat.le_of_ble_eq_true rfl)
  rw [lg_entry_eq]
  generalize (lg_sl ([.ref (g.2.2 13)]) ++ List.replicate (1 - (lg_sl ([.ref (g.2.2 13)])).length) Slot.unset).toArray = ls at hl ⊢
  have hl : lv_has ls 1 [(0, .ref (g.2.2 13))] := hl
  refine lv_aload_n hx hb dX3_forget_0 rfl (lv_at hl 0 rfl) ?_
  refine lv_iconst (v := (nI (1))) hx hb dX3_forget_1 (by decide) ?_
  refine an_put (ci := 3) (v := .int (nI (1))) (ty := .boolean) (C := RX3) (T := TX3) (N := 10) (ws' := (wX g asked values bytes starts ends length parts texts lengths feet sorts nxt size sums oneSums otherSums byFeet kept ((nI (1))) rcount rcust ssums ways nextWays reached nextReached found least greatest)) hx hb hts iw_X3_forget_X3 tyX3 tyX3_ok nmX3 hown hK hP (wX_D hd) hS 13 rfl rfl 7 (by decide) (hts _ fl_X3_forget_28) rfl (by decide +kernel) (rfl) (rfl) (Nat.le_of_ble_eq_true rfl) rfl dX3_forget_2 (fun H locs hP hS => ?_)
  exact wr_vret ((nI (1))) hx hb hr hlocks (rfl) (fun t ht => show va_P g.1 vwCl (wX g asked values bytes starts ends length parts texts lengths feet sorts nxt size sums oneSums otherSums byFeet kept ((nI (1))) rcount rcust ssums ways nextWays reached nextReached found least greatest) t.heap by rw [ht]; exact hP) hS dX3_forget_5
theorem iw_X1_wipe_X1 : ∀ w ∈ u_ws RX1 TX1 5, w ∈ wsX1_wipe := by decide +kernel
theorem fl_X1_wipe_21 : Cond.fieldLink RX1 21 (TX1 3).1 (TX1 3).2.1 (TX1 3).2.2.1 ∈ wsX1_wipe := by decide +kernel
theorem fl_X1_wipe_32 : Cond.fieldLink RX1 32 (TX1 4).1 (TX1 4).2.1 (TX1 4).2.2.1 ∈ wsX1_wipe := by decide +kernel
set_option maxHeartbeats 200000 in
set_option maxRecDepth 100000 in
theorem c_X1_wipe (l : Launch) {g : GW} {asked : Int64} {values : Nat → Int32} {bytes : Nat → Int32} {starts : Nat → Int32} {ends : Nat → Int32} {length : Int32} {parts : Int32} {texts : Nat → Int32} {lengths : Nat → Int32} {feet : Nat → Int32} {sorts : Nat → Int32} {nxt : Nat → Int32} {size : Int32} {sums : Nat → Int32} {oneSums : Nat → Int32} {otherSums : Nat → Int32} {byFeet : Nat → Int64} {kept : Nat → Int64} {over : Int32} {rcount : Int32} {rcust : Int32} {ssums : Nat → Int32} {ways : Nat → Int64} {nextWays : Nat → Int64} {reached : Nat → Int64} {nextReached : Nat → Int64} {found : Int32} {least : Int32} {greatest : Int32} {sz : Nat}  (hd : dW 25 g.2.2) : Met l yX1_wipe wsX1_wipe ({ frames := 0, cells := 0, slots := 0, locals := 0 }) (va_Pc ([.ref (g.2.2 3)]) (qW g (wX g asked values bytes starts ends length parts texts lengths feet sorts nxt size sums oneSums otherSums byFeet kept over rcount rcust ssums ways nextWays reached nextReached found least greatest) sz)) (va_Qv (fun (z : Int32 × Int32) => z.1 = nI 0 ∧ z.2 = nI 0) (fun (z : Int32 × Int32) (t : State) => va_P g.1 vwCl (wX g asked values bytes starts ends (z.1) (z.2) texts lengths feet sorts nxt size sums oneSums otherSums byFeet kept over rcount rcust ssums ways nextWays reached nextReached found least greatest) t.heap) (aW 25 g.2.2 sz)) 0 0 (aW 25 g.2.2 sz) := by
  refine Met.ofW (cc := cX1_wipe) (maxL := 1) (ret := none) (by decide) rfl ?_
  intro p e s m args below meth c s₁ B hml hv
  obtain ⟨rfl, hsz9, hP, hK, hN⟩ := hv
  subst hsz9
  have hx := B.exec
  have hb := B.bytes
  have hr := B.returns
  have hts := atoms_spec (ws := wsX1_wipe) B.pre
  have hown : s.vm.findClass RX1 = some m.cls := findClass_of_methodNamed B.named
  have hlocks := B.notSynchronized
  have hS : va_S (aW 25 g.2.2 s.heap.size) s.heap s.heap [] := va_S.rf
  have hl := lv_entry ([.ref (g.2.2 3)]) (n := 1) (Nat.le_of_ble_eq_true rfl)
  rw [lg_entry_eq]
  generalize (lg_sl ([.ref (g.2.2 3)]) ++ List.replicate (1 - (lg_sl ([.ref (g.2.2 3)])).length) Slot.unset).toArray = ls at hl ⊢
  have hl : lv_has ls 1 [(0, .ref (g.2.2 3))] := hl
  refine lv_aload_n hx hb dX1_wipe_0 rfl (lv_at hl 0 rfl) ?_
  refine lv_iconst (v := (nI (0))) hx hb dX1_wipe_1 (by decide) ?_
  refine an_put (ci := 1) (v := .int (nI (0))) (ty := .int) (C := RX1) (T := TX1) (N := 5) (ws' := (wX g asked values bytes starts ends ((nI (0))) parts texts lengths feet sorts nxt size sums oneSums otherSums byFeet kept over rcount rcust ssums ways nextWays reached nextReached found least greatest)) hx hb hts iw_X1_wipe_X1 tyX1 tyX1_ok nmX1 hown hK hP (wX_D hd) hS 3 rfl rfl 3 (by decide) (hts _ fl_X1_wipe_21) rfl (by decide +kernel) (rfl) (rfl) (Nat.le_of_ble_eq_true rfl) rfl dX1_wipe_2 (fun H locs hP hS => ?_)
  refine lv_aload_n hx hb dX1_wipe_5 rfl (lv_at hl 0 rfl) ?_
  refine lv_iconst (v := (nI (0))) hx hb dX1_wipe_6 (by decide) ?_
  refine an_put (ci := 1) (v := .int (nI (0))) (ty := .int) (C := RX1) (T := TX1) (N := 5) (ws' := (wX g asked values bytes starts ends ((nI (0))) ((nI (0))) texts lengths feet sorts nxt size sums oneSums otherSums byFeet kept over rcount rcust ssums ways nextWays reached nextReached found least greatest)) hx hb hts iw_X1_wipe_X1 tyX1 tyX1_ok nmX1 hown hK hP (wX_D hd) hS 3 rfl rfl 4 (by decide) (hts _ fl_X1_wipe_32) rfl (by decide +kernel) (rfl) (rfl) (Nat.le_of_ble_eq_true rfl) rfl dX1_wipe_7 (fun H locs hP hS => ?_)
  exact wr_vret ((nI (0)), (nI (0))) hx hb hr hlocks (⟨rfl, rfl⟩) (fun t ht => show va_P g.1 vwCl (wX g asked values bytes starts ends ((nI (0))) ((nI (0))) texts lengths feet sorts nxt size sums oneSums otherSums byFeet kept over rcount rcust ssums ways nextWays reached nextReached found least greatest) t.heap by rw [ht]; exact hP) hS dX1_wipe_10
theorem iw_X4_take_X1 : ∀ w ∈ u_ws RX1 TX1 5, w ∈ wsX4_take := by decide +kernel
theorem iw_X4_take_X4 : ∀ w ∈ u_ws RX4 TX4 6, w ∈ wsX4_take := by decide +kernel
theorem fl_X4_take_9 : Cond.fieldLink RX4 9 (TX4 0).1 (TX4 0).2.1 (TX4 0).2.2.1 ∈ wsX4_take := by decide +kernel
theorem fl_X4_take_15 : Cond.fieldLink RX4 15 (TX4 1).1 (TX4 1).2.1 (TX4 1).2.2.1 ∈ wsX4_take := by decide +kernel
theorem fl_X4_take_18 : Cond.fieldLink RX4 18 (TX4 2).1 (TX4 2).2.1 (TX4 2).2.2.1 ∈ wsX4_take := by decide +kernel
theorem fl_X4_take_21 : Cond.fieldLink RX4 21 (TX4 3).1 (TX4 3).2.1 (TX4 3).2.2.1 ∈ wsX4_take := by decide +kernel
theorem fl_X4_take_33 : Cond.fieldLink RX4 33 (TX1 0).1 (TX1 0).2.1 (TX1 0).2.2.1 ∈ wsX4_take := by decide +kernel
theorem fl_X4_take_38 : Cond.fieldLink RX4 38 (TX4 5).1 (TX4 5).2.1 (TX4 5).2.2.1 ∈ wsX4_take := by decide +kernel
theorem fl_X4_take_42 : Cond.fieldLink RX4 42 (TX1 3).1 (TX1 3).2.1 (TX1 3).2.2.1 ∈ wsX4_take := by decide +kernel
set_option maxHeartbeats 200000 in
set_option maxRecDepth 100000 in
theorem c_X4_take (l : Launch) {g : GW} {asked : Int64} {values : Nat → Int32} {bytes : Nat → Int32} {starts : Nat → Int32} {ends : Nat → Int32} {L : Nat} {parts : Int32} {texts : Nat → Int32} {lengths : Nat → Int32} {feet : Nat → Int32} {sorts : Nat → Int32} {nxt : Nat → Int32} {nv : Nat} {sums : Nat → Int32} {oneSums : Nat → Int32} {otherSums : Nat → Int32} {byFeet : Nat → Int64} {kept : Nat → Int64} {over : Int32} {rcount : Int32} {rcust : Int32} {ssums : Nat → Int32} {ways : Nat → Int64} {nextWays : Nat → Int64} {reached : Nat → Int64} {nextReached : Nat → Int64} {found : Int32} {least : Int32} {greatest : Int32} {sz : Nat} (itsFeet : Int32) (itsSort : Int32) (hnv : nv < 10) (hL2 : L ≤ 8) (hd : dW 25 g.2.2) : Met l yX4_take wsX4_take ({ frames := 1, cells := 0, slots := 0, locals := 60 }) (va_Pc ([.ref (g.2.2 7), .ref (g.2.2 3), .int (itsFeet), .int (itsSort)]) (qW g (wX g asked values bytes starts ends (nI (L)) parts texts lengths feet sorts nxt (nI (nv)) sums oneSums otherSums byFeet kept over rcount rcust ssums ways nextWays reached nextReached found least greatest) sz)) (va_Qv (fun (z : (Nat → Int32) × (Nat → Int32) × (Nat → Int32) × (Nat → Int32) × Int32) => z.1 = va_cpy bytes texts 0 (nv * 8) L ∧ z.2.1 = upd lengths nv (nI L) ∧ z.2.2.1 = upd feet nv itsFeet ∧ z.2.2.2.1 = upd sorts nv itsSort ∧ z.2.2.2.2 = nI (nv + 1)) (fun (z : (Nat → Int32) × (Nat → Int32) × (Nat → Int32) × (Nat → Int32) × Int32) (t : State) => va_P g.1 vwCl (wX g asked values bytes starts ends (nI (L)) parts (z.1) (z.2.1) (z.2.2.1) (z.2.2.2.1) nxt (z.2.2.2.2) sums oneSums otherSums byFeet kept over rcount rcust ssums ways nextWays reached nextReached found least greatest) t.heap) (aW 25 g.2.2 sz)) 0 0 (aW 25 g.2.2 sz) := by
  refine Met.ofW (cc := cX4_take) (maxL := 4) (ret := none) (by decide) rfl ?_
  intro p e s m args below meth c s₁ B hml hv
  obtain ⟨rfl, hsz9, hP, hK, hN⟩ := hv
  subst hsz9
  have hx := B.exec
  have hb := B.bytes
  have hr := B.returns
  have hts := atoms_spec (ws := wsX4_take) B.pre
  have hown : s.vm.findClass RX4 = some m.cls := findClass_of_methodNamed B.named
  have hlocks := B.notSynchronized
  have hS : va_S (aW 25 g.2.2 s.heap.size) s.heap s.heap [] := va_S.rf
  have hl := lv_entry ([.ref (g.2.2 7), .ref (g.2.2 3), .int (itsFeet), .int (itsSort)]) (n := 4) (Nat.le_of_ble_eq_true rfl)
  rw [lg_entry_eq]
  generalize (lg_sl ([.ref (g.2.2 7), .ref (g.2.2 3), .int (itsFeet), .int (itsSort)]) ++ List.replicate (4 - (lg_sl ([.ref (g.2.2 7), .ref (g.2.2 3), .int (itsFeet), .int (itsSort)])).length) Slot.unset).toArray = ls at hl ⊢
  have hl : lv_has ls 4 [(0, .ref (g.2.2 7)), (1, .ref (g.2.2 3)), (2, .int (itsFeet)), (3, .int (itsSort))] := hl
  refine lv_aload_n hx hb dX4_take_0 rfl (lv_at hl 1 rfl) ?_
  refine an_get (ci := 1) (v := .ref (g.2.2 4)) (C := RX1) (T := TX1) (N := 5) hx hb hts iw_X4_take_X1 hown hK hP 3 rfl rfl 0 (by decide) (hts _ fl_X4_take_33) rfl dX4_take_1 ?_
  refine lv_iconst (v := (nI (0))) hx hb dX4_take_4 (by decide) ?_
  refine lv_aload_n hx hb dX4_take_5 rfl (lv_at hl 0 rfl) ?_
  refine an_get (ci := 4) (v := .ref (g.2.2 8)) (C := RX4) (T := TX4) (N := 6) hx hb hts iw_X4_take_X4 hown hK hP 7 rfl rfl 0 (by decide) (hts _ fl_X4_take_9) rfl dX4_take_6 ?_
  refine lv_aload_n hx hb dX4_take_9 rfl (lv_at hl 0 rfl) ?_
  refine an_get (ci := 4) (v := .int (nI (nv))) (C := RX4) (T := TX4) (N := 6) hx hb hts iw_X4_take_X4 hown hK hP 7 rfl rfl 5 (by decide) (hts _ fl_X4_take_38) rfl dX4_take_10 ?_
  refine lv_bipush (v := (nI (8))) hx hb dX4_take_13 (by decide) ?_
  refine ln_imul hx hb dX4_take_15 ?_
  refine lv_aload_n hx hb dX4_take_16 rfl (lv_at hl 1 rfl) ?_
  refine an_get (ci := 1) (v := .int (nI (L))) (C := RX1) (T := TX1) (N := 5) hx hb hts iw_X4_take_X1 hown hK hP 3 rfl rfl 3 (by decide) (hts _ fl_X4_take_42) rfl dX4_take_17 ?_
  refine an_copyi (f := bytes) (f1 := texts) (ws' := (wX g asked values bytes starts ends (nI (L)) parts (va_cpy (bytes) (texts) (0) (nv * 8) (L)) lengths feet sorts nxt (nI (nv)) sums oneSums otherSums byFeet kept over rcount rcust ssums ways nextWays reached nextReached found least greatest)) hx hb (by rw [hml]; exact hl.1.symm) hown (hts (.methodLink RX4 45 arraycopyName) (by decide +kernel)) (hts (.native arraycopyName) (by decide +kernel)) (hts (.static arraycopyName) (by decide +kernel)) (hts (.initialized "java/lang/System") (by decide +kernel)) hK hP (wX_D hd) hS 4 8 0 rfl rfl rfl (by omega) (by omega) (by omega) (by omega) (by omega) rfl (Nat.le_of_ble_eq_true rfl) (Nat.le_of_ble_eq_true rfl) dX4_take_20 (fun H locs hP hS => ?_)
  refine lv_aload_n hx hb dX4_take_23 rfl (lv_at hl 0 rfl) ?_
  refine an_get (ci := 4) (v := .ref (g.2.2 9)) (C := RX4) (T := TX4) (N := 6) hx hb hts iw_X4_take_X4 hown hK hP 7 rfl rfl 1 (by decide) (hts _ fl_X4_take_15) rfl dX4_take_24 ?_
  refine lv_aload_n hx hb dX4_take_27 rfl (lv_at hl 0 rfl) ?_
  refine an_get (ci := 4) (v := .int (nI (nv))) (C := RX4) (T := TX4) (N := 6) hx hb hts iw_X4_take_X4 hown hK hP 7 rfl rfl 5 (by decide) (hts _ fl_X4_take_38) rfl dX4_take_28 ?_
  refine lv_aload_n hx hb dX4_take_31 rfl (lv_at hl 1 rfl) ?_
  refine an_get (ci := 1) (v := .int (nI (L))) (C := RX1) (T := TX1) (N := 5) hx hb hts iw_X4_take_X1 hown hK hP 3 rfl rfl 3 (by decide) (hts _ fl_X4_take_42) rfl dX4_take_32 ?_
  refine an_iast (f := lengths) (ws' := (wX g asked values bytes starts ends (nI (L)) parts (va_cpy (bytes) (texts) (0) (nv * 8) (L)) (upd (lengths) (nv) (nI (L))) feet sorts nxt (nI (nv)) sums oneSums otherSums byFeet kept over rcount rcust ssums ways nextWays reached nextReached found least greatest)) hx hb hK hP (wX_D hd) hS 9 0 rfl rfl (by decide) (by omega) rfl dX4_take_35 (fun H locs hP hS => ?_)
  refine lv_aload_n hx hb dX4_take_36 rfl (lv_at hl 0 rfl) ?_
  refine an_get (ci := 4) (v := .ref (g.2.2 10)) (C := RX4) (T := TX4) (N := 6) hx hb hts iw_X4_take_X4 hown hK hP 7 rfl rfl 2 (by decide) (hts _ fl_X4_take_18) rfl dX4_take_37 ?_
  refine lv_aload_n hx hb dX4_take_40 rfl (lv_at hl 0 rfl) ?_
  refine an_get (ci := 4) (v := .int (nI (nv))) (C := RX4) (T := TX4) (N := 6) hx hb hts iw_X4_take_X4 hown hK hP 7 rfl rfl 5 (by decide) (hts _ fl_X4_take_38) rfl dX4_take_41 ?_
  refine lv_iload_n hx hb dX4_take_44 rfl (lv_at hl 2 rfl) ?_
  refine an_iast (f := feet) (ws' := (wX g asked values bytes starts ends (nI (L)) parts (va_cpy (bytes) (texts) (0) (nv * 8) (L)) (upd (lengths) (nv) (nI (L))) (upd (feet) (nv) (itsFeet)) sorts nxt (nI (nv)) sums oneSums otherSums byFeet kept over rcount rcust ssums ways nextWays reached nextReached found least greatest)) hx hb hK hP (wX_D hd) hS 10 0 rfl rfl (by decide) (by omega) rfl dX4_take_45 (fun H locs hP hS => ?_)
  refine lv_aload_n hx hb dX4_take_46 rfl (lv_at hl 0 rfl) ?_
  refine an_get (ci := 4) (v := .ref (g.2.2 11)) (C := RX4) (T := TX4) (N := 6) hx hb hts iw_X4_take_X4 hown hK hP 7 rfl rfl 3 (by decide) (hts _ fl_X4_take_21) rfl dX4_take_47 ?_
  refine lv_aload_n hx hb dX4_take_50 rfl (lv_at hl 0 rfl) ?_
  refine an_get (ci := 4) (v := .int (nI (nv))) (C := RX4) (T := TX4) (N := 6) hx hb hts iw_X4_take_X4 hown hK hP 7 rfl rfl 5 (by decide) (hts _ fl_X4_take_38) rfl dX4_take_51 ?_
  refine lv_iload_n hx hb dX4_take_54 rfl (lv_at hl 3 rfl) ?_
  refine an_iast (f := sorts) (ws' := (wX g asked values bytes starts ends (nI (L)) parts (va_cpy (bytes) (texts) (0) (nv * 8) (L)) (upd (lengths) (nv) (nI (L))) (upd (feet) (nv) (itsFeet)) (upd (sorts) (nv) (itsSort)) nxt (nI (nv)) sums oneSums otherSums byFeet kept over rcount rcust ssums ways nextWays reached nextReached found least greatest)) hx hb hK hP (wX_D hd) hS 11 0 rfl rfl (by decide) (by omega) rfl dX4_take_55 (fun H locs hP hS => ?_)
  refine lv_aload_n hx hb dX4_take_56 rfl (lv_at hl 0 rfl) ?_
  refine lv_dup hx hb dX4_take_57 rfl ?_
  refine an_get (ci := 4) (v := .int (nI (nv))) (C := RX4) (T := TX4) (N := 6) hx hb hts iw_X4_take_X4 hown hK hP 7 rfl rfl 5 (by decide) (hts _ fl_X4_take_38) rfl dX4_take_58 ?_
  refine lv_iconst (v := (nI (1))) hx hb dX4_take_61 (by decide) ?_
  refine ln_iadd hx hb dX4_take_62 ?_
  refine an_put (ci := 4) (v := .int (nI (nv + 1))) (ty := .int) (C := RX4) (T := TX4) (N := 6) (ws' := (wX g asked values bytes starts ends (nI (L)) parts (va_cpy (bytes) (texts) (0) (nv * 8) (L)) (upd (lengths) (nv) (nI (L))) (upd (feet) (nv) (itsFeet)) (upd (sorts) (nv) (itsSort)) nxt ((nI (nv + 1))) sums oneSums otherSums byFeet kept over rcount rcust ssums ways nextWays reached nextReached found least greatest)) hx hb hts iw_X4_take_X4 tyX4 tyX4_ok nmX4 hown hK hP (wX_D hd) hS 7 rfl rfl 5 (by decide) (hts _ fl_X4_take_38) rfl (by decide +kernel) (rfl) (rfl) (Nat.le_of_ble_eq_true rfl) rfl dX4_take_63 (fun H locs hP hS => ?_)
  exact wr_vret (va_cpy (bytes) (texts) (0) (nv * 8) (L), upd (lengths) (nv) (nI (L)), upd (feet) (nv) (itsFeet), upd (sorts) (nv) (itsSort), (nI (nv + 1))) hx hb hr hlocks (⟨rfl, rfl, rfl, rfl, rfl⟩) (fun t ht => show va_P g.1 vwCl (wX g asked values bytes starts ends (nI (L)) parts (va_cpy (bytes) (texts) (0) (nv * 8) (L)) (upd (lengths) (nv) (nI (L))) (upd (feet) (nv) (itsFeet)) (upd (sorts) (nv) (itsSort)) nxt ((nI (nv + 1))) sums oneSums otherSums byFeet kept over rcount rcust ssums ways nextWays reached nextReached found least greatest) t.heap by rw [ht]; exact hP) hS dX4_take_66
set_option maxHeartbeats 200000 in
set_option maxRecDepth 100000 in
theorem c_J7_fill_kept (l : Launch) {g : GW} {asked : Int64} {values : Nat → Int32} {bytes : Nat → Int32} {starts : Nat → Int32} {ends : Nat → Int32} {length : Int32} {parts : Int32} {texts : Nat → Int32} {lengths : Nat → Int32} {feet : Nat → Int32} {sorts : Nat → Int32} {nxt : Nat → Int32} {size : Int32} {sums : Nat → Int32} {oneSums : Nat → Int32} {otherSums : Nat → Int32} {byFeet : Nat → Int64} {kept : Nat → Int64} {over : Int32} {rcount : Int32} {rcust : Int32} {ssums : Nat → Int32} {ways : Nat → Int64} {nextWays : Nat → Int64} {reached : Nat → Int64} {nextReached : Nat → Int64} {found : Int32} {least : Int32} {greatest : Int32} {sz : Nat} (v : Nat)  (hd : dW 25 g.2.2) : Met l yJ7_fill_d0a16 wsJ7_fill_d0a16 ({ frames := 0, cells := 0, slots := 0, locals := 0 }) (va_Pc ([.ref (g.2.2 18), .long (lN (v))]) (qW g (wX g asked values bytes starts ends length parts texts lengths feet sorts nxt size sums oneSums otherSums byFeet kept over rcount rcust ssums ways nextWays reached nextReached found least greatest) sz)) (va_Qv (fun (z : (Nat → Int64)) => ∀ k, k < 9003 → z k = lN v) (fun (z : (Nat → Int64)) (t : State) => va_P g.1 vwCl (wX g asked values bytes starts ends length parts texts lengths feet sorts nxt size sums oneSums otherSums byFeet z over rcount rcust ssums ways nextWays reached nextReached found least greatest) t.heap) (aW 25 g.2.2 sz)) 0 0 (aW 25 g.2.2 sz) := by
  refine Met.ofW (cc := cJ7_fill_d0a16) (maxL := 5) (ret := none) (by decide) rfl ?_
  intro p e s m args below meth c s₁ B hml hv
  obtain ⟨rfl, hsz9, hP, hK, hN⟩ := hv
  subst hsz9
  have hx := B.exec
  have hb := B.bytes
  have hr := B.returns
  have hts := atoms_spec (ws := wsJ7_fill_d0a16) B.pre
  have hown : s.vm.findClass RJ7 = some m.cls := findClass_of_methodNamed B.named
  have hlocks := B.notSynchronized
  have hS : va_S (aW 25 g.2.2 s.heap.size) s.heap s.heap [] := va_S.rf
  have hl := lv_entry ([.ref (g.2.2 18), .long (lN (v))]) (n := 5) (Nat.le_of_ble_eq_true rfl)
  rw [lg_entry_eq]
  generalize (lg_sl ([.ref (g.2.2 18), .long (lN (v))]) ++ List.replicate (5 - (lg_sl ([.ref (g.2.2 18), .long (lN (v))])).length) Slot.unset).toArray = ls at hl ⊢
  have hl : lv_has ls 5 [(0, .ref (g.2.2 18)), (1, .long (lN (v)))] := hl
  refine lv_iconst (v := (nI (0))) hx hb dJ7_fill_d0a16_0 (by decide) ?_
  refine lv_istore_n (lv' := [(3, .int (nI (0))), (0, .ref (g.2.2 18)), (1, .long (lN (v)))]) hx hb dJ7_fill_d0a16_1 rfl hl (by decide) rfl (fun ls hl => ?_)
  refine lv_aload_n hx hb dJ7_fill_d0a16_2 rfl (lv_at hl 1 rfl) ?_
  refine va_alen (v := nI 9003) hx hb hK hP 18 1 rfl rfl rfl dJ7_fill_d0a16_3 ?_
  refine lv_istore (lv' := [(4, .int (nI (9003))), (3, .int (nI (0))), (0, .ref (g.2.2 18)), (1, .long (lN (v)))]) hx hb dJ7_fill_d0a16_4 hl (by decide) rfl (fun ls hl => ?_)
  have lp_6 : ∀ (n : Nat) (i : Nat) (u : Nat → Int64), (i ≤ 9003) → (∀ k, k < i → u k = lN v) → 9003 - i < n → ∀ (H : Heap) (locs : List Loc), va_P g.1 vwCl (wX g asked values bytes starts ends length parts texts lengths feet sorts nxt size sums oneSums otherSums byFeet u over rcount rcust ssums ways nextWays reached nextReached found least greatest) H → va_S (aW 25 g.2.2 s.heap.size) s.heap H locs → ∀ (ls : Array Slot), lv_has ls 5 [(0, .ref (g.2.2 18)), (1, .long (lN (v))), (3, .int (nI (i))), (4, .int (nI (9003)))] → W p l e (headSpec wsJ7_fill_d0a16 ({ frames := 0, cells := 0, slots := 0, locals := 0 })).room s m (([.ref (g.2.2 18), .long (lN (v))] : List Value).toArray) below meth c H locs 0 0 (MQ below (va_Qv (fun (z : (Nat → Int64)) => ∀ k, k < 9003 → z k = lN v) (fun (z : (Nat → Int64)) (t : State) => va_P g.1 vwCl (wX g asked values bytes starts ends length parts texts lengths feet sorts nxt size sums oneSums otherSums byFeet z over rcount rcust ssums ways nextWays reached nextReached found least greatest) t.heap) (aW 25 g.2.2 s.heap.size)) (([.ref (g.2.2 18), .long (lN (v))] : List Value).toArray) s 0 0 (aW 25 g.2.2 s.heap.size)) (F0 m 6 ls []) := by
    intro n
    induction n with
    | zero => intro i u hi hu hm; exact absurd hm (Nat.not_lt_zero _)
    | succ n ih_6 =>
      intro i u hi hu hm_6 H locs hP hS ls hl
      refine lv_iload_n hx hb dJ7_fill_d0a16_6 rfl (lv_at hl 2 rfl) ?_
      refine lv_iload hx hb dJ7_fill_d0a16_7 (lv_at hl 3 rfl) ?_
      refine lv_icmp_ge (tgt := 22) hx hb dJ7_fill_d0a16_9 (by decide) (fun c_9 => ?_) (fun c_9 => ?_)
      · have c_9 := (cv_le_nn (by omega) (by omega)).mp c_9
        exact wr_vret (u) hx hb hr hlocks (fun k hk => hu k (by omega)) (fun t ht => show va_P g.1 vwCl (wX g asked values bytes starts ends length parts texts lengths feet sorts nxt size sums oneSums otherSums byFeet u over rcount rcust ssums ways nextWays reached nextReached found least greatest) t.heap by rw [ht]; exact hP) hS dJ7_fill_d0a16_22
      · have c_9 := (not_congr (cv_le_nn (by omega) (by omega))).mp c_9
        refine lv_aload_n hx hb dJ7_fill_d0a16_12 rfl (lv_at hl 0 rfl) ?_
        refine lv_iload_n hx hb dJ7_fill_d0a16_13 rfl (lv_at hl 2 rfl) ?_
        refine lv_lload_n hx hb dJ7_fill_d0a16_14 rfl (lv_at hl 1 rfl) ?_
        refine an_last (f := u) (ws' := (wX g asked values bytes starts ends length parts texts lengths feet sorts nxt size sums oneSums otherSums byFeet (vp_updL (u) (i) (lN (v))) over rcount rcust ssums ways nextWays reached nextReached found least greatest)) hx hb hK hP (wX_D hd) hS 18 1 rfl rfl (by decide) (by omega) rfl dJ7_fill_d0a16_15 (fun H locs hP hS => ?_)
        refine lv_iinc (v := (nI (i + 1))) (lv' := [(3, .int (nI (i + 1))), (0, .ref (g.2.2 18)), (1, .long (lN (v))), (4, .int (nI (9003)))]) hx hb dJ7_fill_d0a16_16 hl (k := 2) rfl (nI_add _ 1) (by decide) rfl (fun ls hl => ?_)
        refine lv_goto (tgt := 6) hx hb dJ7_fill_d0a16_19 (by decide) ?_
        exact ih_6 (i + 1) (vp_updL u i (lN v)) (by omega) (fillL_s hu) (by omega) _ _ hP hS ls (lv_sub hl [1, 2, 0, 3] rfl)
  exact lp_6 (9003 - (0) + 1) 0 kept (Nat.zero_le _) (fun k hk => absurd hk (Nat.not_lt_zero k)) (Nat.lt_succ_self _) _ _ hP hS ls (lv_sub hl [2, 3, 1, 0] rfl)
set_option maxHeartbeats 200000 in
set_option maxRecDepth 100000 in
theorem c_J7_fill_ways (l : Launch) {g : GW} {asked : Int64} {values : Nat → Int32} {bytes : Nat → Int32} {starts : Nat → Int32} {ends : Nat → Int32} {length : Int32} {parts : Int32} {texts : Nat → Int32} {lengths : Nat → Int32} {feet : Nat → Int32} {sorts : Nat → Int32} {nxt : Nat → Int32} {size : Int32} {sums : Nat → Int32} {oneSums : Nat → Int32} {otherSums : Nat → Int32} {byFeet : Nat → Int64} {kept : Nat → Int64} {over : Int32} {rcount : Int32} {rcust : Int32} {ssums : Nat → Int32} {ways : Nat → Int64} {nextWays : Nat → Int64} {reached : Nat → Int64} {nextReached : Nat → Int64} {found : Int32} {least : Int32} {greatest : Int32} {sz : Nat} (v : Nat)  (hd : dW 25 g.2.2) : Met l yJ7_fill_d0a16 wsJ7_fill_d0a16 ({ frames := 0, cells := 0, slots := 0, locals := 0 }) (va_Pc ([.ref (g.2.2 21), .long (lN (v))]) (qW g (wX g asked values bytes starts ends length parts texts lengths feet sorts nxt size sums oneSums otherSums byFeet kept over rcount rcust ssums ways nextWays reached nextReached found least greatest) sz)) (va_Qv (fun (z : (Nat → Int64)) => ∀ k, k < 4 → z k = lN v) (fun (z : (Nat → Int64)) (t : State) => va_P g.1 vwCl (wX g asked values bytes starts ends length parts texts lengths feet sorts nxt size sums oneSums otherSums byFeet kept over rcount rcust ssums z nextWays reached nextReached found least greatest) t.heap) (aW 25 g.2.2 sz)) 0 0 (aW 25 g.2.2 sz) := by
  refine Met.ofW (cc := cJ7_fill_d0a16) (maxL := 5) (ret := none) (by decide) rfl ?_
  intro p e s m args below meth c s₁ B hml hv
  obtain ⟨rfl, hsz9, hP, hK, hN⟩ := hv
  subst hsz9
  have hx := B.exec
  have hb := B.bytes
  have hr := B.returns
  have hts := atoms_spec (ws := wsJ7_fill_d0a16) B.pre
  have hown : s.vm.findClass RJ7 = some m.cls := findClass_of_methodNamed B.named
  have hlocks := B.notSynchronized
  have hS : va_S (aW 25 g.2.2 s.heap.size) s.heap s.heap [] := va_S.rf
  have hl := lv_entry ([.ref (g.2.2 21), .long (lN (v))]) (n := 5) (Nat.le_of_ble_eq_true rfl)
  rw [lg_entry_eq]
  generalize (lg_sl ([.ref (g.2.2 21), .long (lN (v))]) ++ List.replicate (5 - (lg_sl ([.ref (g.2.2 21), .long (lN (v))])).length) Slot.unset).toArray = ls at hl ⊢
  have hl : lv_has ls 5 [(0, .ref (g.2.2 21)), (1, .long (lN (v)))] := hl
  refine lv_iconst (v := (nI (0))) hx hb dJ7_fill_d0a16_0 (by decide) ?_
  refine lv_istore_n (lv' := [(3, .int (nI (0))), (0, .ref (g.2.2 21)), (1, .long (lN (v)))]) hx hb dJ7_fill_d0a16_1 rfl hl (by decide) rfl (fun ls hl => ?_)
  refine lv_aload_n hx hb dJ7_fill_d0a16_2 rfl (lv_at hl 1 rfl) ?_
  refine va_alen (v := nI 4) hx hb hK hP 21 1 rfl rfl rfl dJ7_fill_d0a16_3 ?_
  refine lv_istore (lv' := [(4, .int (nI (4))), (3, .int (nI (0))), (0, .ref (g.2.2 21)), (1, .long (lN (v)))]) hx hb dJ7_fill_d0a16_4 hl (by decide) rfl (fun ls hl => ?_)
  have lp_6 : ∀ (n : Nat) (i : Nat) (u : Nat → Int64), (i ≤ 4) → (∀ k, k < i → u k = lN v) → 4 - i < n → ∀ (H : Heap) (locs : List Loc), va_P g.1 vwCl (wX g asked values bytes starts ends length parts texts lengths feet sorts nxt size sums oneSums otherSums byFeet kept over rcount rcust ssums u nextWays reached nextReached found least greatest) H → va_S (aW 25 g.2.2 s.heap.size) s.heap H locs → ∀ (ls : Array Slot), lv_has ls 5 [(0, .ref (g.2.2 21)), (1, .long (lN (v))), (3, .int (nI (i))), (4, .int (nI (4)))] → W p l e (headSpec wsJ7_fill_d0a16 ({ frames := 0, cells := 0, slots := 0, locals := 0 })).room s m (([.ref (g.2.2 21), .long (lN (v))] : List Value).toArray) below meth c H locs 0 0 (MQ below (va_Qv (fun (z : (Nat → Int64)) => ∀ k, k < 4 → z k = lN v) (fun (z : (Nat → Int64)) (t : State) => va_P g.1 vwCl (wX g asked values bytes starts ends length parts texts lengths feet sorts nxt size sums oneSums otherSums byFeet kept over rcount rcust ssums z nextWays reached nextReached found least greatest) t.heap) (aW 25 g.2.2 s.heap.size)) (([.ref (g.2.2 21), .long (lN (v))] : List Value).toArray) s 0 0 (aW 25 g.2.2 s.heap.size)) (F0 m 6 ls []) := by
    intro n
    induction n with
    | zero => intro i u hi hu hm; exact absurd hm (Nat.not_lt_zero _)
    | succ n ih_6 =>
      intro i u hi hu hm_6 H locs hP hS ls hl
      refine lv_iload_n hx hb dJ7_fill_d0a16_6 rfl (lv_at hl 2 rfl) ?_
      refine lv_iload hx hb dJ7_fill_d0a16_7 (lv_at hl 3 rfl) ?_
      refine lv_icmp_ge (tgt := 22) hx hb dJ7_fill_d0a16_9 (by decide) (fun c_9 => ?_) (fun c_9 => ?_)
      · have c_9 := (cv_le_nn (by omega) (by omega)).mp c_9
        exact wr_vret (u) hx hb hr hlocks (fun k hk => hu k (by omega)) (fun t ht => show va_P g.1 vwCl (wX g asked values bytes starts ends length parts texts lengths feet sorts nxt size sums oneSums otherSums byFeet kept over rcount rcust ssums u nextWays reached nextReached found least greatest) t.heap by rw [ht]; exact hP) hS dJ7_fill_d0a16_22
      · have c_9 := (not_congr (cv_le_nn (by omega) (by omega))).mp c_9
        refine lv_aload_n hx hb dJ7_fill_d0a16_12 rfl (lv_at hl 0 rfl) ?_
        refine lv_iload_n hx hb dJ7_fill_d0a16_13 rfl (lv_at hl 2 rfl) ?_
        refine lv_lload_n hx hb dJ7_fill_d0a16_14 rfl (lv_at hl 1 rfl) ?_
        refine an_last (f := u) (ws' := (wX g asked values bytes starts ends length parts texts lengths feet sorts nxt size sums oneSums otherSums byFeet kept over rcount rcust ssums (vp_updL (u) (i) (lN (v))) nextWays reached nextReached found least greatest)) hx hb hK hP (wX_D hd) hS 21 1 rfl rfl (by decide) (by omega) rfl dJ7_fill_d0a16_15 (fun H locs hP hS => ?_)
        refine lv_iinc (v := (nI (i + 1))) (lv' := [(3, .int (nI (i + 1))), (0, .ref (g.2.2 21)), (1, .long (lN (v))), (4, .int (nI (4)))]) hx hb dJ7_fill_d0a16_16 hl (k := 2) rfl (nI_add _ 1) (by decide) rfl (fun ls hl => ?_)
        refine lv_goto (tgt := 6) hx hb dJ7_fill_d0a16_19 (by decide) ?_
        exact ih_6 (i + 1) (vp_updL u i (lN v)) (by omega) (fillL_s hu) (by omega) _ _ hP hS ls (lv_sub hl [1, 2, 0, 3] rfl)
  exact lp_6 (4 - (0) + 1) 0 ways (Nat.zero_le _) (fun k hk => absurd hk (Nat.not_lt_zero k)) (Nat.lt_succ_self _) _ _ hP hS ls (lv_sub hl [2, 3, 1, 0] rfl)
set_option maxHeartbeats 200000 in
set_option maxRecDepth 100000 in
theorem c_J7_fill_nextWays (l : Launch) {g : GW} {asked : Int64} {values : Nat → Int32} {bytes : Nat → Int32} {starts : Nat → Int32} {ends : Nat → Int32} {length : Int32} {parts : Int32} {texts : Nat → Int32} {lengths : Nat → Int32} {feet : Nat → Int32} {sorts : Nat → Int32} {nxt : Nat → Int32} {size : Int32} {sums : Nat → Int32} {oneSums : Nat → Int32} {otherSums : Nat → Int32} {byFeet : Nat → Int64} {kept : Nat → Int64} {over : Int32} {rcount : Int32} {rcust : Int32} {ssums : Nat → Int32} {ways : Nat → Int64} {nextWays : Nat → Int64} {reached : Nat → Int64} {nextReached : Nat → Int64} {found : Int32} {least : Int32} {greatest : Int32} {sz : Nat} (v : Nat)  (hd : dW 25 g.2.2) : Met l yJ7_fill_d0a16 wsJ7_fill_d0a16 ({ frames := 0, cells := 0, slots := 0, locals := 0 }) (va_Pc ([.ref (g.2.2 22), .long (lN (v))]) (qW g (wX g asked values bytes starts ends length parts texts lengths feet sorts nxt size sums oneSums otherSums byFeet kept over rcount rcust ssums ways nextWays reached nextReached found least greatest) sz)) (va_Qv (fun (z : (Nat → Int64)) => ∀ k, k < 4 → z k = lN v) (fun (z : (Nat → Int64)) (t : State) => va_P g.1 vwCl (wX g asked values bytes starts ends length parts texts lengths feet sorts nxt size sums oneSums otherSums byFeet kept over rcount rcust ssums ways z reached nextReached found least greatest) t.heap) (aW 25 g.2.2 sz)) 0 0 (aW 25 g.2.2 sz) := by
  refine Met.ofW (cc := cJ7_fill_d0a16) (maxL := 5) (ret := none) (by decide) rfl ?_
  intro p e s m args below meth c s₁ B hml hv
  obtain ⟨rfl, hsz9, hP, hK, hN⟩ := hv
  subst hsz9
  have hx := B.exec
  have hb := B.bytes
  have hr := B.returns
  have hts := atoms_spec (ws := wsJ7_fill_d0a16) B.pre
  have hown : s.vm.findClass RJ7 = some m.cls := findClass_of_methodNamed B.named
  have hlocks := B.notSynchronized
  have hS : va_S (aW 25 g.2.2 s.heap.size) s.heap s.heap [] := va_S.rf
  have hl := lv_entry ([.ref (g.2.2 22), .long (lN (v))]) (n := 5) (Nat.le_of_ble_eq_true rfl)
  rw [lg_entry_eq]
  generalize (lg_sl ([.ref (g.2.2 22), .long (lN (v))]) ++ List.replicate (5 - (lg_sl ([.ref (g.2.2 22), .long (lN (v))])).length) Slot.unset).toArray = ls at hl ⊢
  have hl : lv_has ls 5 [(0, .ref (g.2.2 22)), (1, .long (lN (v)))] := hl
  refine lv_iconst (v := (nI (0))) hx hb dJ7_fill_d0a16_0 (by decide) ?_
  refine lv_istore_n (lv' := [(3, .int (nI (0))), (0, .ref (g.2.2 22)), (1, .long (lN (v)))]) hx hb dJ7_fill_d0a16_1 rfl hl (by decide) rfl (fun ls hl => ?_)
  refine lv_aload_n hx hb dJ7_fill_d0a16_2 rfl (lv_at hl 1 rfl) ?_
  refine va_alen (v := nI 4) hx hb hK hP 22 1 rfl rfl rfl dJ7_fill_d0a16_3 ?_
  refine lv_istore (lv' := [(4, .int (nI (4))), (3, .int (nI (0))), (0, .ref (g.2.2 22)), (1, .long (lN (v)))]) hx hb dJ7_fill_d0a16_4 hl (by decide) rfl (fun ls hl => ?_)
  have lp_6 : ∀ (n : Nat) (i : Nat) (u : Nat → Int64), (i ≤ 4) → (∀ k, k < i → u k = lN v) → 4 - i < n → ∀ (H : Heap) (locs : List Loc), va_P g.1 vwCl (wX g asked values bytes starts ends length parts texts lengths feet sorts nxt size sums oneSums otherSums byFeet kept over rcount rcust ssums ways u reached nextReached found least greatest) H → va_S (aW 25 g.2.2 s.heap.size) s.heap H locs → ∀ (ls : Array Slot), lv_has ls 5 [(0, .ref (g.2.2 22)), (1, .long (lN (v))), (3, .int (nI (i))), (4, .int (nI (4)))] → W p l e (headSpec wsJ7_fill_d0a16 ({ frames := 0, cells := 0, slots := 0, locals := 0 })).room s m (([.ref (g.2.2 22), .long (lN (v))] : List Value).toArray) below meth c H locs 0 0 (MQ below (va_Qv (fun (z : (Nat → Int64)) => ∀ k, k < 4 → z k = lN v) (fun (z : (Nat → Int64)) (t : State) => va_P g.1 vwCl (wX g asked values bytes starts ends length parts texts lengths feet sorts nxt size sums oneSums otherSums byFeet kept over rcount rcust ssums ways z reached nextReached found least greatest) t.heap) (aW 25 g.2.2 s.heap.size)) (([.ref (g.2.2 22), .long (lN (v))] : List Value).toArray) s 0 0 (aW 25 g.2.2 s.heap.size)) (F0 m 6 ls []) := by
    intro n
    induction n with
    | zero => intro i u hi hu hm; exact absurd hm (Nat.not_lt_zero _)
    | succ n ih_6 =>
      intro i u hi hu hm_6 H locs hP hS ls hl
      refine lv_iload_n hx hb dJ7_fill_d0a16_6 rfl (lv_at hl 2 rfl) ?_
      refine lv_iload hx hb dJ7_fill_d0a16_7 (lv_at hl 3 rfl) ?_
      refine lv_icmp_ge (tgt := 22) hx hb dJ7_fill_d0a16_9 (by decide) (fun c_9 => ?_) (fun c_9 => ?_)
      · have c_9 := (cv_le_nn (by omega) (by omega)).mp c_9
        exact wr_vret (u) hx hb hr hlocks (fun k hk => hu k (by omega)) (fun t ht => show va_P g.1 vwCl (wX g asked values bytes starts ends length parts texts lengths feet sorts nxt size sums oneSums otherSums byFeet kept over rcount rcust ssums ways u reached nextReached found least greatest) t.heap by rw [ht]; exact hP) hS dJ7_fill_d0a16_22
      · have c_9 := (not_congr (cv_le_nn (by omega) (by omega))).mp c_9
        refine lv_aload_n hx hb dJ7_fill_d0a16_12 rfl (lv_at hl 0 rfl) ?_
        refine lv_iload_n hx hb dJ7_fill_d0a16_13 rfl (lv_at hl 2 rfl) ?_
        refine lv_lload_n hx hb dJ7_fill_d0a16_14 rfl (lv_at hl 1 rfl) ?_
        refine an_last (f := u) (ws' := (wX g asked values bytes starts ends length parts texts lengths feet sorts nxt size sums oneSums otherSums byFeet kept over rcount rcust ssums ways (vp_updL (u) (i) (lN (v))) reached nextReached found least greatest)) hx hb hK hP (wX_D hd) hS 22 1 rfl rfl (by decide) (by omega) rfl dJ7_fill_d0a16_15 (fun H locs hP hS => ?_)
        refine lv_iinc (v := (nI (i + 1))) (lv' := [(3, .int (nI (i + 1))), (0, .ref (g.2.2 22)), (1, .long (lN (v))), (4, .int (nI (4)))]) hx hb dJ7_fill_d0a16_16 hl (k := 2) rfl (nI_add _ 1) (by decide) rfl (fun ls hl => ?_)
        refine lv_goto (tgt := 6) hx hb dJ7_fill_d0a16_19 (by decide) ?_
        exact ih_6 (i + 1) (vp_updL u i (lN v)) (by omega) (fillL_s hu) (by omega) _ _ hP hS ls (lv_sub hl [1, 2, 0, 3] rfl)
  exact lp_6 (4 - (0) + 1) 0 nextWays (Nat.zero_le _) (fun k hk => absurd hk (Nat.not_lt_zero k)) (Nat.lt_succ_self _) _ _ hP hS ls (lv_sub hl [2, 3, 1, 0] rfl)
set_option maxHeartbeats 200000 in
set_option maxRecDepth 100000 in
theorem c_J7_fill_reached (l : Launch) {g : GW} {asked : Int64} {values : Nat → Int32} {bytes : Nat → Int32} {starts : Nat → Int32} {ends : Nat → Int32} {length : Int32} {parts : Int32} {texts : Nat → Int32} {lengths : Nat → Int32} {feet : Nat → Int32} {sorts : Nat → Int32} {nxt : Nat → Int32} {size : Int32} {sums : Nat → Int32} {oneSums : Nat → Int32} {otherSums : Nat → Int32} {byFeet : Nat → Int64} {kept : Nat → Int64} {over : Int32} {rcount : Int32} {rcust : Int32} {ssums : Nat → Int32} {ways : Nat → Int64} {nextWays : Nat → Int64} {reached : Nat → Int64} {nextReached : Nat → Int64} {found : Int32} {least : Int32} {greatest : Int32} {sz : Nat} (v : Nat)  (hd : dW 25 g.2.2) : Met l yJ7_fill_d0a16 wsJ7_fill_d0a16 ({ frames := 0, cells := 0, slots := 0, locals := 0 }) (va_Pc ([.ref (g.2.2 23), .long (lN (v))]) (qW g (wX g asked values bytes starts ends length parts texts lengths feet sorts nxt size sums oneSums otherSums byFeet kept over rcount rcust ssums ways nextWays reached nextReached found least greatest) sz)) (va_Qv (fun (z : (Nat → Int64)) => ∀ k, k < 188 → z k = lN v) (fun (z : (Nat → Int64)) (t : State) => va_P g.1 vwCl (wX g asked values bytes starts ends length parts texts lengths feet sorts nxt size sums oneSums otherSums byFeet kept over rcount rcust ssums ways nextWays z nextReached found least greatest) t.heap) (aW 25 g.2.2 sz)) 0 0 (aW 25 g.2.2 sz) := by
  refine Met.ofW (cc := cJ7_fill_d0a16) (maxL := 5) (ret := none) (by decide) rfl ?_
  intro p e s m args below meth c s₁ B hml hv
  obtain ⟨rfl, hsz9, hP, hK, hN⟩ := hv
  subst hsz9
  have hx := B.exec
  have hb := B.bytes
  have hr := B.returns
  have hts := atoms_spec (ws := wsJ7_fill_d0a16) B.pre
  have hown : s.vm.findClass RJ7 = some m.cls := findClass_of_methodNamed B.named
  have hlocks := B.notSynchronized
  have hS : va_S (aW 25 g.2.2 s.heap.size) s.heap s.heap [] := va_S.rf
  have hl := lv_entry ([.ref (g.2.2 23), .long (lN (v))]) (n := 5) (Nat.le_of_ble_eq_true rfl)
  rw [lg_entry_eq]
  generalize (lg_sl ([.ref (g.2.2 23), .long (lN (v))]) ++ List.replicate (5 - (lg_sl ([.ref (g.2.2 23), .long (lN (v))])).length) Slot.unset).toArray = ls at hl ⊢
  have hl : lv_has ls 5 [(0, .ref (g.2.2 23)), (1, .long (lN (v)))] := hl
  refine lv_iconst (v := (nI (0))) hx hb dJ7_fill_d0a16_0 (by decide) ?_
  refine lv_istore_n (lv' := [(3, .int (nI (0))), (0, .ref (g.2.2 23)), (1, .long (lN (v)))]) hx hb dJ7_fill_d0a16_1 rfl hl (by decide) rfl (fun ls hl => ?_)
  refine lv_aload_n hx hb dJ7_fill_d0a16_2 rfl (lv_at hl 1 rfl) ?_
  refine va_alen (v := nI 188) hx hb hK hP 23 1 rfl rfl rfl dJ7_fill_d0a16_3 ?_
  refine lv_istore (lv' := [(4, .int (nI (188))), (3, .int (nI (0))), (0, .ref (g.2.2 23)), (1, .long (lN (v)))]) hx hb dJ7_fill_d0a16_4 hl (by decide) rfl (fun ls hl => ?_)
  have lp_6 : ∀ (n : Nat) (i : Nat) (u : Nat → Int64), (i ≤ 188) → (∀ k, k < i → u k = lN v) → 188 - i < n → ∀ (H : Heap) (locs : List Loc), va_P g.1 vwCl (wX g asked values bytes starts ends length parts texts lengths feet sorts nxt size sums oneSums otherSums byFeet kept over rcount rcust ssums ways nextWays u nextReached found least greatest) H → va_S (aW 25 g.2.2 s.heap.size) s.heap H locs → ∀ (ls : Array Slot), lv_has ls 5 [(0, .ref (g.2.2 23)), (1, .long (lN (v))), (3, .int (nI (i))), (4, .int (nI (188)))] → W p l e (headSpec wsJ7_fill_d0a16 ({ frames := 0, cells := 0, slots := 0, locals := 0 })).room s m (([.ref (g.2.2 23), .long (lN (v))] : List Value).toArray) below meth c H locs 0 0 (MQ below (va_Qv (fun (z : (Nat → Int64)) => ∀ k, k < 188 → z k = lN v) (fun (z : (Nat → Int64)) (t : State) => va_P g.1 vwCl (wX g asked values bytes starts ends length parts texts lengths feet sorts nxt size sums oneSums otherSums byFeet kept over rcount rcust ssums ways nextWays z nextReached found least greatest) t.heap) (aW 25 g.2.2 s.heap.size)) (([.ref (g.2.2 23), .long (lN (v))] : List Value).toArray) s 0 0 (aW 25 g.2.2 s.heap.size)) (F0 m 6 ls []) := by
    intro n
    induction n with
    | zero => intro i u hi hu hm; exact absurd hm (Nat.not_lt_zero _)
    | succ n ih_6 =>
      intro i u hi hu hm_6 H locs hP hS ls hl
      refine lv_iload_n hx hb dJ7_fill_d0a16_6 rfl (lv_at hl 2 rfl) ?_
      refine lv_iload hx hb dJ7_fill_d0a16_7 (lv_at hl 3 rfl) ?_
      refine lv_icmp_ge (tgt := 22) hx hb dJ7_fill_d0a16_9 (by decide) (fun c_9 => ?_) (fun c_9 => ?_)
      · have c_9 := (cv_le_nn (by omega) (by omega)).mp c_9
        exact wr_vret (u) hx hb hr hlocks (fun k hk => hu k (by omega)) (fun t ht => show va_P g.1 vwCl (wX g asked values bytes starts ends length parts texts lengths feet sorts nxt size sums oneSums otherSums byFeet kept over rcount rcust ssums ways nextWays u nextReached found least greatest) t.heap by rw [ht]; exact hP) hS dJ7_fill_d0a16_22
      · have c_9 := (not_congr (cv_le_nn (by omega) (by omega))).mp c_9
        refine lv_aload_n hx hb dJ7_fill_d0a16_12 rfl (lv_at hl 0 rfl) ?_
        refine lv_iload_n hx hb dJ7_fill_d0a16_13 rfl (lv_at hl 2 rfl) ?_
        refine lv_lload_n hx hb dJ7_fill_d0a16_14 rfl (lv_at hl 1 rfl) ?_
        refine an_last (f := u) (ws' := (wX g asked values bytes starts ends length parts texts lengths feet sorts nxt size sums oneSums otherSums byFeet kept over rcount rcust ssums ways nextWays (vp_updL (u) (i) (lN (v))) nextReached found least greatest)) hx hb hK hP (wX_D hd) hS 23 1 rfl rfl (by decide) (by omega) rfl dJ7_fill_d0a16_15 (fun H locs hP hS => ?_)
        refine lv_iinc (v := (nI (i + 1))) (lv' := [(3, .int (nI (i + 1))), (0, .ref (g.2.2 23)), (1, .long (lN (v))), (4, .int (nI (188)))]) hx hb dJ7_fill_d0a16_16 hl (k := 2) rfl (nI_add _ 1) (by decide) rfl (fun ls hl => ?_)
        refine lv_goto (tgt := 6) hx hb dJ7_fill_d0a16_19 (by decide) ?_
        exact ih_6 (i + 1) (vp_updL u i (lN v)) (by omega) (fillL_s hu) (by omega) _ _ hP hS ls (lv_sub hl [1, 2, 0, 3] rfl)
  exact lp_6 (188 - (0) + 1) 0 reached (Nat.zero_le _) (fun k hk => absurd hk (Nat.not_lt_zero k)) (Nat.lt_succ_self _) _ _ hP hS ls (lv_sub hl [2, 3, 1, 0] rfl)
set_option maxHeartbeats 200000 in
set_option maxRecDepth 100000 in
theorem c_J7_fill_nextReached (l : Launch) {g : GW} {asked : Int64} {values : Nat → Int32} {bytes : Nat → Int32} {starts : Nat → Int32} {ends : Nat → Int32} {length : Int32} {parts : Int32} {texts : Nat → Int32} {lengths : Nat → Int32} {feet : Nat → Int32} {sorts : Nat → Int32} {nxt : Nat → Int32} {size : Int32} {sums : Nat → Int32} {oneSums : Nat → Int32} {otherSums : Nat → Int32} {byFeet : Nat → Int64} {kept : Nat → Int64} {over : Int32} {rcount : Int32} {rcust : Int32} {ssums : Nat → Int32} {ways : Nat → Int64} {nextWays : Nat → Int64} {reached : Nat → Int64} {nextReached : Nat → Int64} {found : Int32} {least : Int32} {greatest : Int32} {sz : Nat} (v : Nat)  (hd : dW 25 g.2.2) : Met l yJ7_fill_d0a16 wsJ7_fill_d0a16 ({ frames := 0, cells := 0, slots := 0, locals := 0 }) (va_Pc ([.ref (g.2.2 24), .long (lN (v))]) (qW g (wX g asked values bytes starts ends length parts texts lengths feet sorts nxt size sums oneSums otherSums byFeet kept over rcount rcust ssums ways nextWays reached nextReached found least greatest) sz)) (va_Qv (fun (z : (Nat → Int64)) => ∀ k, k < 188 → z k = lN v) (fun (z : (Nat → Int64)) (t : State) => va_P g.1 vwCl (wX g asked values bytes starts ends length parts texts lengths feet sorts nxt size sums oneSums otherSums byFeet kept over rcount rcust ssums ways nextWays reached z found least greatest) t.heap) (aW 25 g.2.2 sz)) 0 0 (aW 25 g.2.2 sz) := by
  refine Met.ofW (cc := cJ7_fill_d0a16) (maxL := 5) (ret := none) (by decide) rfl ?_
  intro p e s m args below meth c s₁ B hml hv
  obtain ⟨rfl, hsz9, hP, hK, hN⟩ := hv
  subst hsz9
  have hx := B.exec
  have hb := B.bytes
  have hr := B.returns
  have hts := atoms_spec (ws := wsJ7_fill_d0a16) B.pre
  have hown : s.vm.findClass RJ7 = some m.cls := findClass_of_methodNamed B.named
  have hlocks := B.notSynchronized
  have hS : va_S (aW 25 g.2.2 s.heap.size) s.heap s.heap [] := va_S.rf
  have hl := lv_entry ([.ref (g.2.2 24), .long (lN (v))]) (n := 5) (Nat.le_of_ble_eq_true rfl)
  rw [lg_entry_eq]
  generalize (lg_sl ([.ref (g.2.2 24), .long (lN (v))]) ++ List.replicate (5 - (lg_sl ([.ref (g.2.2 24), .long (lN (v))])).length) Slot.unset).toArray = ls at hl ⊢
  have hl : lv_has ls 5 [(0, .ref (g.2.2 24)), (1, .long (lN (v)))] := hl
  refine lv_iconst (v := (nI (0))) hx hb dJ7_fill_d0a16_0 (by decide) ?_
  refine lv_istore_n (lv' := [(3, .int (nI (0))), (0, .ref (g.2.2 24)), (1, .long (lN (v)))]) hx hb dJ7_fill_d0a16_1 rfl hl (by decide) rfl (fun ls hl => ?_)
  refine lv_aload_n hx hb dJ7_fill_d0a16_2 rfl (lv_at hl 1 rfl) ?_
  refine va_alen (v := nI 188) hx hb hK hP 24 1 rfl rfl rfl dJ7_fill_d0a16_3 ?_
  refine lv_istore (lv' := [(4, .int (nI (188))), (3, .int (nI (0))), (0, .ref (g.2.2 24)), (1, .long (lN (v)))]) hx hb dJ7_fill_d0a16_4 hl (by decide) rfl (fun ls hl => ?_)
  have lp_6 : ∀ (n : Nat) (i : Nat) (u : Nat → Int64), (i ≤ 188) → (∀ k, k < i → u k = lN v) → 188 - i < n → ∀ (H : Heap) (locs : List Loc), va_P g.1 vwCl (wX g asked values bytes starts ends length parts texts lengths feet sorts nxt size sums oneSums otherSums byFeet kept over rcount rcust ssums ways nextWays reached u found least greatest) H → va_S (aW 25 g.2.2 s.heap.size) s.heap H locs → ∀ (ls : Array Slot), lv_has ls 5 [(0, .ref (g.2.2 24)), (1, .long (lN (v))), (3, .int (nI (i))), (4, .int (nI (188)))] → W p l e (headSpec wsJ7_fill_d0a16 ({ frames := 0, cells := 0, slots := 0, locals := 0 })).room s m (([.ref (g.2.2 24), .long (lN (v))] : List Value).toArray) below meth c H locs 0 0 (MQ below (va_Qv (fun (z : (Nat → Int64)) => ∀ k, k < 188 → z k = lN v) (fun (z : (Nat → Int64)) (t : State) => va_P g.1 vwCl (wX g asked values bytes starts ends length parts texts lengths feet sorts nxt size sums oneSums otherSums byFeet kept over rcount rcust ssums ways nextWays reached z found least greatest) t.heap) (aW 25 g.2.2 s.heap.size)) (([.ref (g.2.2 24), .long (lN (v))] : List Value).toArray) s 0 0 (aW 25 g.2.2 s.heap.size)) (F0 m 6 ls []) := by
    intro n
    induction n with
    | zero => intro i u hi hu hm; exact absurd hm (Nat.not_lt_zero _)
    | succ n ih_6 =>
      intro i u hi hu hm_6 H locs hP hS ls hl
      refine lv_iload_n hx hb dJ7_fill_d0a16_6 rfl (lv_at hl 2 rfl) ?_
      refine lv_iload hx hb dJ7_fill_d0a16_7 (lv_at hl 3 rfl) ?_
      refine lv_icmp_ge (tgt := 22) hx hb dJ7_fill_d0a16_9 (by decide) (fun c_9 => ?_) (fun c_9 => ?_)
      · have c_9 := (cv_le_nn (by omega) (by omega)).mp c_9
        exact wr_vret (u) hx hb hr hlocks (fun k hk => hu k (by omega)) (fun t ht => show va_P g.1 vwCl (wX g asked values bytes starts ends length parts texts lengths feet sorts nxt size sums oneSums otherSums byFeet kept over rcount rcust ssums ways nextWays reached u found least greatest) t.heap by rw [ht]; exact hP) hS dJ7_fill_d0a16_22
      · have c_9 := (not_congr (cv_le_nn (by omega) (by omega))).mp c_9
        refine lv_aload_n hx hb dJ7_fill_d0a16_12 rfl (lv_at hl 0 rfl) ?_
        refine lv_iload_n hx hb dJ7_fill_d0a16_13 rfl (lv_at hl 2 rfl) ?_
        refine lv_lload_n hx hb dJ7_fill_d0a16_14 rfl (lv_at hl 1 rfl) ?_
        refine an_last (f := u) (ws' := (wX g asked values bytes starts ends length parts texts lengths feet sorts nxt size sums oneSums otherSums byFeet kept over rcount rcust ssums ways nextWays reached (vp_updL (u) (i) (lN (v))) found least greatest)) hx hb hK hP (wX_D hd) hS 24 1 rfl rfl (by decide) (by omega) rfl dJ7_fill_d0a16_15 (fun H locs hP hS => ?_)
        refine lv_iinc (v := (nI (i + 1))) (lv' := [(3, .int (nI (i + 1))), (0, .ref (g.2.2 24)), (1, .long (lN (v))), (4, .int (nI (188)))]) hx hb dJ7_fill_d0a16_16 hl (k := 2) rfl (nI_add _ 1) (by decide) rfl (fun ls hl => ?_)
        refine lv_goto (tgt := 6) hx hb dJ7_fill_d0a16_19 (by decide) ?_
        exact ih_6 (i + 1) (vp_updL u i (lN v)) (by omega) (fillL_s hu) (by omega) _ _ hP hS ls (lv_sub hl [1, 2, 0, 3] rfl)
  exact lp_6 (188 - (0) + 1) 0 nextReached (Nat.zero_le _) (fun k hk => absurd hk (Nat.not_lt_zero k)) (Nat.lt_succ_self _) _ _ hP hS ls (lv_sub hl [2, 3, 1, 0] rfl)
theorem iw_X4_putSums_X4 : ∀ w ∈ u_ws RX4 TX4 6, w ∈ wsX4_putSums := by decide +kernel
theorem fl_X4_putSums_9 : Cond.fieldLink RX4 9 (TX4 0).1 (TX4 0).2.1 (TX4 0).2.2.1 ∈ wsX4_putSums := by decide +kernel
theorem fl_X4_putSums_15 : Cond.fieldLink RX4 15 (TX4 1).1 (TX4 1).2.1 (TX4 1).2.2.1 ∈ wsX4_putSums := by decide +kernel
theorem fl_X4_putSums_38 : Cond.fieldLink RX4 38 (TX4 5).1 (TX4 5).2.1 (TX4 5).2.2.1 ∈ wsX4_putSums := by decide +kernel
set_option maxHeartbeats 200000 in
set_option maxRecDepth 100000 in
theorem c_X4_putSums_sums (l : Launch) {g : GW} {asked : Int64} {values : Nat → Int32} {bytes : Nat → Int32} {starts : Nat → Int32} {ends : Nat → Int32} {length : Int32} {parts : Int32} {texts : Nat → Int32} {lengths : Nat → Int32} {feet : Nat → Int32} {sorts : Nat → Int32} {nxt : Nat → Int32} {nv : Nat} {sums : Nat → Int32} {oneSums : Nat → Int32} {otherSums : Nat → Int32} {byFeet : Nat → Int64} {kept : Nat → Int64} {over : Int32} {rcount : Int32} {rcust : Int32} {ssums : Nat → Int32} {ways : Nat → Int64} {nextWays : Nat → Int64} {reached : Nat → Int64} {nextReached : Nat → Int64} {found : Int32} {least : Int32} {greatest : Int32} {sz : Nat} (counting : Nat) (custom : Nat) (hc : counting < 3) (hk : custom < 4) (hnv : nv ≤ 10) (hle : okV lengths nv 1 8) (hd : dW 25 g.2.2) : Met l yX4_putSums wsX4_putSums ({ frames := 4, cells := 0, slots := 0, locals := 92 }) (va_Pc ([.ref (g.2.2 7), .ref (g.2.2 14), .ref (g.2.2 1), .int (nI (counting)), .int (nI (custom))]) (qW g (wX g asked values bytes starts ends length parts texts lengths feet sorts nxt (nI (nv)) sums oneSums otherSums byFeet kept over rcount rcust ssums ways nextWays reached nextReached found least greatest) sz)) (va_Qv (fun (z : (Nat → Int32)) => ∀ v, v < nv → z v = vsm values texts lengths counting custom v) (fun (z : (Nat → Int32)) (t : State) => va_P g.1 vwCl (wX g asked values bytes starts ends length parts texts lengths feet sorts nxt (nI (nv)) z oneSums otherSums byFeet kept over rcount rcust ssums ways nextWays reached nextReached found least greatest) t.heap) (aW 25 g.2.2 sz)) 0 0 (aW 25 g.2.2 sz) := by
  refine Met.ofW (cc := cX4_putSums) (maxL := 7) (ret := none) (by decide) rfl ?_
  intro p e s m args below meth c s₁ B hml hv
  obtain ⟨rfl, hsz9, hP, hK, hN⟩ := hv
  subst hsz9
  have hx := B.exec
  have hb := B.bytes
  have hr := B.returns
  have hts := atoms_spec (ws := wsX4_putSums) B.pre
  have hown : s.vm.findClass RX4 = some m.cls := findClass_of_methodNamed B.named
  have hlocks := B.notSynchronized
  have hS : va_S (aW 25 g.2.2 s.heap.size) s.heap s.heap [] := va_S.rf
  have hl := lv_entry ([.ref (g.2.2 7), .ref (g.2.2 14), .ref (g.2.2 1), .int (nI (counting)), .int (nI (custom))]) (n := 7) (Nat.le_of_ble_eq_true rfl)
  rw [lg_entry_eq]
  generalize (lg_sl ([.ref (g.2.2 7), .ref (g.2.2 14), .ref (g.2.2 1), .int (nI (counting)), .int (nI (custom))]) ++ List.replicate (7 - (lg_sl ([.ref (g.2.2 7), .ref (g.2.2 14), .ref (g.2.2 1), .int (nI (counting)), .int (nI (custom))])).length) Slot.unset).toArray = ls at hl ⊢
  have hl : lv_has ls 7 [(0, .ref (g.2.2 7)), (1, .ref (g.2.2 14)), (2, .ref (g.2.2 1)), (3, .int (nI (counting))), (4, .int (nI (custom)))] := hl
  refine lv_iconst (v := (nI (0))) hx hb dX4_putSums_0 (by decide) ?_
  refine lv_istore (lv' := [(5, .int (nI (0))), (0, .ref (g.2.2 7)), (1, .ref (g.2.2 14)), (2, .ref (g.2.2 1)), (3, .int (nI (counting))), (4, .int (nI (custom)))]) hx hb dX4_putSums_1 hl (by decide) rfl (fun ls hl => ?_)
  have lp_3 : ∀ (n : Nat) (i : Nat) (u : Nat → Int32), (i ≤ nv) → (∀ v, v < i → u v = vsm values texts lengths counting custom v) → nv - i < n → ∀ (H : Heap) (locs : List Loc), va_P g.1 vwCl (wX g asked values bytes starts ends length parts texts lengths feet sorts nxt (nI (nv)) u oneSums otherSums byFeet kept over rcount rcust ssums ways nextWays reached nextReached found least greatest) H → va_S (aW 25 g.2.2 s.heap.size) s.heap H locs → ∀ (ls : Array Slot), lv_has ls 7 [(0, .ref (g.2.2 7)), (1, .ref (g.2.2 14)), (2, .ref (g.2.2 1)), (3, .int (nI (counting))), (4, .int (nI (custom))), (5, .int (nI (i)))] → W p l e (headSpec wsX4_putSums ({ frames := 4, cells := 0, slots := 0, locals := 92 })).room s m (([.ref (g.2.2 7), .ref (g.2.2 14), .ref (g.2.2 1), .int (nI (counting)), .int (nI (custom))] : List Value).toArray) below meth c H locs 0 0 (MQ below (va_Qv (fun (z : (Nat → Int32)) => ∀ v, v < nv → z v = vsm values texts lengths counting custom v) (fun (z : (Nat → Int32)) (t : State) => va_P g.1 vwCl (wX g asked values bytes starts ends length parts texts lengths feet sorts nxt (nI (nv)) z oneSums otherSums byFeet kept over rcount rcust ssums ways nextWays reached nextReached found least greatest) t.heap) (aW 25 g.2.2 s.heap.size)) (([.ref (g.2.2 7), .ref (g.2.2 14), .ref (g.2.2 1), .int (nI (counting)), .int (nI (custom))] : List Value).toArray) s 0 0 (aW 25 g.2.2 s.heap.size)) (F0 m 3 ls []) := by
    intro n
    induction n with
    | zero => intro i u hi hu hm; exact absurd hm (Nat.not_lt_zero _)
    | succ n ih_3 =>
      intro i u hi hu hm_3 H locs hP hS ls hl
      refine lv_iload hx hb dX4_putSums_3 (lv_at hl 5 rfl) ?_
      refine lv_aload_n hx hb dX4_putSums_5 rfl (lv_at hl 0 rfl) ?_
      refine an_get (ci := 4) (v := .int (nI (nv))) (C := RX4) (T := TX4) (N := 6) hx hb hts iw_X4_putSums_X4 hown hK hP 7 rfl rfl 5 (by decide) (hts _ fl_X4_putSums_38) rfl dX4_putSums_6 ?_
      refine lv_icmp_ge (tgt := 52) hx hb dX4_putSums_9 (by decide) (fun c_9 => ?_) (fun c_9 => ?_)
      · have c_9 := (cv_le_nn (by omega) (by omega)).mp c_9
        exact wr_vret (u) hx hb hr hlocks (fun v hv => hu v (by omega)) (fun t ht => show va_P g.1 vwCl (wX g asked values bytes starts ends length parts texts lengths feet sorts nxt (nI (nv)) u oneSums otherSums byFeet kept over rcount rcust ssums ways nextWays reached nextReached found least greatest) t.heap by rw [ht]; exact hP) hS dX4_putSums_52
      · have c_9 := (not_congr (cv_le_nn (by omega) (by omega))).mp c_9
        refine lv_iload hx hb dX4_putSums_12 (lv_at hl 5 rfl) ?_
        refine lv_bipush (v := (nI (8))) hx hb dX4_putSums_14 (by decide) ?_
        refine ln_imul hx hb dX4_putSums_16 ?_
        refine lv_istore (lv' := [(6, .int (nI (i * 8))), (0, .ref (g.2.2 7)), (1, .ref (g.2.2 14)), (2, .ref (g.2.2 1)), (3, .int (nI (counting))), (4, .int (nI (custom))), (5, .int (nI (i)))]) hx hb dX4_putSums_17 hl (by decide) rfl (fun ls hl => ?_)
        refine lv_aload_n hx hb dX4_putSums_19 rfl (lv_at hl 2 rfl) ?_
        refine lv_iload hx hb dX4_putSums_20 (lv_at hl 6 rfl) ?_
        refine lv_aload_n hx hb dX4_putSums_22 rfl (lv_at hl 3 rfl) ?_
        refine lv_iload_n hx hb dX4_putSums_23 rfl (lv_at hl 4 rfl) ?_
        refine lv_iload hx hb dX4_putSums_24 (lv_at hl 5 rfl) ?_
        refine lv_aload_n hx hb dX4_putSums_26 rfl (lv_at hl 1 rfl) ?_
        refine an_get (ci := 4) (v := .ref (g.2.2 8)) (C := RX4) (T := TX4) (N := 6) hx hb hts iw_X4_putSums_X4 hown hK hP 7 rfl rfl 0 (by decide) (hts _ fl_X4_putSums_9) rfl dX4_putSums_27 ?_
        refine lv_iload hx hb dX4_putSums_30 (lv_at hl 0 rfl) ?_
        refine lv_iload hx hb dX4_putSums_32 (lv_at hl 0 rfl) ?_
        refine lv_aload_n hx hb dX4_putSums_34 rfl (lv_at hl 1 rfl) ?_
        refine an_get (ci := 4) (v := .ref (g.2.2 9)) (C := RX4) (T := TX4) (N := 6) hx hb hts iw_X4_putSums_X4 hown hK hP 7 rfl rfl 1 (by decide) (hts _ fl_X4_putSums_15) rfl dX4_putSums_35 ?_
        refine lv_iload hx hb dX4_putSums_38 (lv_at hl 6 rfl) ?_
        have hl8 := hle i (by omega)
        refine an_iald (f := lengths) hx hb hK hP 9 0 rfl rfl (by decide) (by omega) dX4_putSums_40 ?_
        refine ln_toi (y := (nI (tn (lengths i)))) (hl8.1) ?_
        refine ln_iadd hx hb dX4_putSums_41 ?_
        refine ro_call (va_runV (As := [.int (nI (counting)), .int (nI (custom)), .ref (g.2.2 8), .int (nI (i * 8)), .int (nI ((i * 8) + (tn (lengths i))))]) (rest := [.int (nI (i)), .ref (g.2.2 14)]) ⟨hx, hb, hml, hown, hts⟩ (c_X0_sumOf_texts l (g := g) (asked := asked) (values := values) (bytes := bytes) (starts := starts) (ends := ends) (length := length) (parts := parts) (texts := texts) (lengths := lengths) (feet := feet) (sorts := sorts) (nxt := nxt) (size := nI (nv)) (sums := u) (oneSums := oneSums) (otherSums := otherSums) (byFeet := byFeet) (kept := kept) (over := over) (rcount := rcount) (rcust := rcust) (ssums := ssums) (ways := ways) (nextWays := nextWays) (reached := reached) (nextReached := nextReached) (found := found) (least := least) (greatest := greatest) (counting) (custom) (i * 8) ((i * 8) + (tn (lengths i))) hc hk (by omega) (by omega)) (cwV 5 hts gX4_putSums_X0_sumOf rfl rfl rfl (by decide +kernel) ⟨Nat.le_of_ble_eq_true rfl, Nat.le_of_ble_eq_true rfl⟩) (pre_V pW_bl (va_recv hK hP (ci := 0) (q0 := 1) rfl rfl) (fun U hU hW => pW_of hP hK hN hU hW)) rfl rfl hl.1 rfl (lv_room (Nat.le_of_ble_eq_true rfl)) dX4_putSums_42 ⟨Nat.zero_le _, Nat.zero_le _⟩) ?_
        refine ln_toi (y := (vsm values texts lengths counting custom i)) (by show smv values counting custom texts (i * 8) (i * 8 + tn (lengths i) - i * 8) = _; rw [Nat.add_sub_cancel_left]; rfl) ?_
        refine an_iast (f := u) (ws' := (wX g asked values bytes starts ends length parts texts lengths feet sorts nxt (nI (nv)) (upd (u) (i) (vsm values texts lengths counting custom i)) oneSums otherSums byFeet kept over rcount rcust ssums ways nextWays reached nextReached found least greatest)) hx hb hK hP (wX_D hd) hS 14 0 rfl rfl (by decide) (by omega) rfl dX4_putSums_45 (fun H locs hP hS => ?_)
        refine lv_iinc (v := (nI (i + 1))) (lv' := [(5, .int (nI (i + 1))), (6, .int (nI (i * 8))), (0, .ref (g.2.2 7)), (1, .ref (g.2.2 14)), (2, .ref (g.2.2 1)), (3, .int (nI (counting))), (4, .int (nI (custom)))]) hx hb dX4_putSums_46 hl (k := 6) rfl (nI_add _ 1) (by decide) rfl (fun ls hl => ?_)
        refine lv_goto (tgt := 3) hx hb dX4_putSums_49 (by decide) ?_
        exact ih_3 (i + 1) (upd u i (vsm values texts lengths counting custom i)) (by omega) (fillI_s (w := vsm values texts lengths counting custom) hu) (by omega) _ _ hP hS ls (lv_sub hl [2, 3, 4, 5, 6, 0] rfl)
  exact lp_3 (nv - (0) + 1) 0 sums (Nat.zero_le _) (fun k hk => absurd hk (Nat.not_lt_zero k)) (Nat.lt_succ_self _) _ _ hP hS ls (lv_sub hl [1, 2, 3, 4, 5, 0] rfl)
set_option maxHeartbeats 200000 in
set_option maxRecDepth 100000 in
theorem c_X4_putSums_oneSums (l : Launch) {g : GW} {asked : Int64} {values : Nat → Int32} {bytes : Nat → Int32} {starts : Nat → Int32} {ends : Nat → Int32} {length : Int32} {parts : Int32} {texts : Nat → Int32} {lengths : Nat → Int32} {feet : Nat → Int32} {sorts : Nat → Int32} {nxt : Nat → Int32} {nv : Nat} {sums : Nat → Int32} {oneSums : Nat → Int32} {otherSums : Nat → Int32} {byFeet : Nat → Int64} {kept : Nat → Int64} {over : Int32} {rcount : Int32} {rcust : Int32} {ssums : Nat → Int32} {ways : Nat → Int64} {nextWays : Nat → Int64} {reached : Nat → Int64} {nextReached : Nat → Int64} {found : Int32} {least : Int32} {greatest : Int32} {sz : Nat} (counting : Nat) (custom : Nat) (hc : counting < 3) (hk : custom < 4) (hnv : nv ≤ 10) (hle : okV lengths nv 1 8) (hd : dW 25 g.2.2) : Met l yX4_putSums wsX4_putSums ({ frames := 4, cells := 0, slots := 0, locals := 92 }) (va_Pc ([.ref (g.2.2 7), .ref (g.2.2 15), .ref (g.2.2 1), .int (nI (counting)), .int (nI (custom))]) (qW g (wX g asked values bytes starts ends length parts texts lengths feet sorts nxt (nI (nv)) sums oneSums otherSums byFeet kept over rcount rcust ssums ways nextWays reached nextReached found least greatest) sz)) (va_Qv (fun (z : (Nat → Int32)) => ∀ v, v < nv → z v = vsm values texts lengths counting custom v) (fun (z : (Nat → Int32)) (t : State) => va_P g.1 vwCl (wX g asked values bytes starts ends length parts texts lengths feet sorts nxt (nI (nv)) sums z otherSums byFeet kept over rcount rcust ssums ways nextWays reached nextReached found least greatest) t.heap) (aW 25 g.2.2 sz)) 0 0 (aW 25 g.2.2 sz) := by
  refine Met.ofW (cc := cX4_putSums) (maxL := 7) (ret := none) (by decide) rfl ?_
  intro p e s m args below meth c s₁ B hml hv
  obtain ⟨rfl, hsz9, hP, hK, hN⟩ := hv
  subst hsz9
  have hx := B.exec
  have hb := B.bytes
  have hr := B.returns
  have hts := atoms_spec (ws := wsX4_putSums) B.pre
  have hown : s.vm.findClass RX4 = some m.cls := findClass_of_methodNamed B.named
  have hlocks := B.notSynchronized
  have hS : va_S (aW 25 g.2.2 s.heap.size) s.heap s.heap [] := va_S.rf
  have hl := lv_entry ([.ref (g.2.2 7), .ref (g.2.2 15), .ref (g.2.2 1), .int (nI (counting)), .int (nI (custom))]) (n := 7) (Nat.le_of_ble_eq_true rfl)
  rw [lg_entry_eq]
  generalize (lg_sl ([.ref (g.2.2 7), .ref (g.2.2 15), .ref (g.2.2 1), .int (nI (counting)), .int (nI (custom))]) ++ List.replicate (7 - (lg_sl ([.ref (g.2.2 7), .ref (g.2.2 15), .ref (g.2.2 1), .int (nI (counting)), .int (nI (custom))])).length) Slot.unset).toArray = ls at hl ⊢
  have hl : lv_has ls 7 [(0, .ref (g.2.2 7)), (1, .ref (g.2.2 15)), (2, .ref (g.2.2 1)), (3, .int (nI (counting))), (4, .int (nI (custom)))] := hl
  refine lv_iconst (v := (nI (0))) hx hb dX4_putSums_0 (by decide) ?_
  refine lv_istore (lv' := [(5, .int (nI (0))), (0, .ref (g.2.2 7)), (1, .ref (g.2.2 15)), (2, .ref (g.2.2 1)), (3, .int (nI (counting))), (4, .int (nI (custom)))]) hx hb dX4_putSums_1 hl (by decide) rfl (fun ls hl => ?_)
  have lp_3 : ∀ (n : Nat) (i : Nat) (u : Nat → Int32), (i ≤ nv) → (∀ v, v < i → u v = vsm values texts lengths counting custom v) → nv - i < n → ∀ (H : Heap) (locs : List Loc), va_P g.1 vwCl (wX g asked values bytes starts ends length parts texts lengths feet sorts nxt (nI (nv)) sums u otherSums byFeet kept over rcount rcust ssums ways nextWays reached nextReached found least greatest) H → va_S (aW 25 g.2.2 s.heap.size) s.heap H locs → ∀ (ls : Array Slot), lv_has ls 7 [(0, .ref (g.2.2 7)), (1, .ref (g.2.2 15)), (2, .ref (g.2.2 1)), (3, .int (nI (counting))), (4, .int (nI (custom))), (5, .int (nI (i)))] → W p l e (headSpec wsX4_putSums ({ frames := 4, cells := 0, slots := 0, locals := 92 })).room s m (([.ref (g.2.2 7), .ref (g.2.2 15), .ref (g.2.2 1), .int (nI (counting)), .int (nI (custom))] : List Value).toArray) below meth c H locs 0 0 (MQ below (va_Qv (fun (z : (Nat → Int32)) => ∀ v, v < nv → z v = vsm values texts lengths counting custom v) (fun (z : (Nat → Int32)) (t : State) => va_P g.1 vwCl (wX g asked values bytes starts ends length parts texts lengths feet sorts nxt (nI (nv)) sums z otherSums byFeet kept over rcount rcust ssums ways nextWays reached nextReached found least greatest) t.heap) (aW 25 g.2.2 s.heap.size)) (([.ref (g.2.2 7), .ref (g.2.2 15), .ref (g.2.2 1), .int (nI (counting)), .int (nI (custom))] : List Value).toArray) s 0 0 (aW 25 g.2.2 s.heap.size)) (F0 m 3 ls []) := by
    intro n
    induction n with
    | zero => intro i u hi hu hm; exact absurd hm (Nat.not_lt_zero _)
    | succ n ih_3 =>
      intro i u hi hu hm_3 H locs hP hS ls hl
      refine lv_iload hx hb dX4_putSums_3 (lv_at hl 5 rfl) ?_
      refine lv_aload_n hx hb dX4_putSums_5 rfl (lv_at hl 0 rfl) ?_
      refine an_get (ci := 4) (v := .int (nI (nv))) (C := RX4) (T := TX4) (N := 6) hx hb hts iw_X4_putSums_X4 hown hK hP 7 rfl rfl 5 (by decide) (hts _ fl_X4_putSums_38) rfl dX4_putSums_6 ?_
      refine lv_icmp_ge (tgt := 52) hx hb dX4_putSums_9 (by decide) (fun c_9 => ?_) (fun c_9 => ?_)
      · have c_9 := (cv_le_nn (by omega) (by omega)).mp c_9
        exact wr_vret (u) hx hb hr hlocks (fun v hv => hu v (by omega)) (fun t ht => show va_P g.1 vwCl (wX g asked values bytes starts ends length parts texts lengths feet sorts nxt (nI (nv)) sums u otherSums byFeet kept over rcount rcust ssums ways nextWays reached nextReached found least greatest) t.heap by rw [ht]; exact hP) hS dX4_putSums_52
      · have c_9 := (not_congr (cv_le_nn (by omega) (by omega))).mp c_9
        refine lv_iload hx hb dX4_putSums_12 (lv_at hl 5 rfl) ?_
        refine lv_bipush (v := (nI (8))) hx hb dX4_putSums_14 (by decide) ?_
        refine ln_imul hx hb dX4_putSums_16 ?_
        refine lv_istore (lv' := [(6, .int (nI (i * 8))), (0, .ref (g.2.2 7)), (1, .ref (g.2.2 15)), (2, .ref (g.2.2 1)), (3, .int (nI (counting))), (4, .int (nI (custom))), (5, .int (nI (i)))]) hx hb dX4_putSums_17 hl (by decide) rfl (fun ls hl => ?_)
        refine lv_aload_n hx hb dX4_putSums_19 rfl (lv_at hl 2 rfl) ?_
        refine lv_iload hx hb dX4_putSums_20 (lv_at hl 6 rfl) ?_
        refine lv_aload_n hx hb dX4_putSums_22 rfl (lv_at hl 3 rfl) ?_
        refine lv_iload_n hx hb dX4_putSums_23 rfl (lv_at hl 4 rfl) ?_
        refine lv_iload hx hb dX4_putSums_24 (lv_at hl 5 rfl) ?_
        refine lv_aload_n hx hb dX4_putSums_26 rfl (lv_at hl 1 rfl) ?_
        refine an_get (ci := 4) (v := .ref (g.2.2 8)) (C := RX4) (T := TX4) (N := 6) hx hb hts iw_X4_putSums_X4 hown hK hP 7 rfl rfl 0 (by decide) (hts _ fl_X4_putSums_9) rfl dX4_putSums_27 ?_
        refine lv_iload hx hb dX4_putSums_30 (lv_at hl 0 rfl) ?_
        refine lv_iload hx hb dX4_putSums_32 (lv_at hl 0 rfl) ?_
        refine lv_aload_n hx hb dX4_putSums_34 rfl (lv_at hl 1 rfl) ?_
        refine an_get (ci := 4) (v := .ref (g.2.2 9)) (C := RX4) (T := TX4) (N := 6) hx hb hts iw_X4_putSums_X4 hown hK hP 7 rfl rfl 1 (by decide) (hts _ fl_X4_putSums_15) rfl dX4_putSums_35 ?_
        refine lv_iload hx hb dX4_putSums_38 (lv_at hl 6 rfl) ?_
        have hl8 := hle i (by omega)
        refine an_iald (f := lengths) hx hb hK hP 9 0 rfl rfl (by decide) (by omega) dX4_putSums_40 ?_
        refine ln_toi (y := (nI (tn (lengths i)))) (hl8.1) ?_
        refine ln_iadd hx hb dX4_putSums_41 ?_
        refine ro_call (va_runV (As := [.int (nI (counting)), .int (nI (custom)), .ref (g.2.2 8), .int (nI (i * 8)), .int (nI ((i * 8) + (tn (lengths i))))]) (rest := [.int (nI (i)), .ref (g.2.2 15)]) ⟨hx, hb, hml, hown, hts⟩ (c_X0_sumOf_texts l (g := g) (asked := asked) (values := values) (bytes := bytes) (starts := starts) (ends := ends) (length := length) (parts := parts) (texts := texts) (lengths := lengths) (feet := feet) (sorts := sorts) (nxt := nxt) (size := nI (nv)) (sums := sums) (oneSums := u) (otherSums := otherSums) (byFeet := byFeet) (kept := kept) (over := over) (rcount := rcount) (rcust := rcust) (ssums := ssums) (ways := ways) (nextWays := nextWays) (reached := reached) (nextReached := nextReached) (found := found) (least := least) (greatest := greatest) (counting) (custom) (i * 8) ((i * 8) + (tn (lengths i))) hc hk (by omega) (by omega)) (cwV 5 hts gX4_putSums_X0_sumOf rfl rfl rfl (by decide +kernel) ⟨Nat.le_of_ble_eq_true rfl, Nat.le_of_ble_eq_true rfl⟩) (pre_V pW_bl (va_recv hK hP (ci := 0) (q0 := 1) rfl rfl) (fun U hU hW => pW_of hP hK hN hU hW)) rfl rfl hl.1 rfl (lv_room (Nat.le_of_ble_eq_true rfl)) dX4_putSums_42 ⟨Nat.zero_le _, Nat.zero_le _⟩) ?_
        refine ln_toi (y := (vsm values texts lengths counting custom i)) (by show smv values counting custom texts (i * 8) (i * 8 + tn (lengths i) - i * 8) = _; rw [Nat.add_sub_cancel_left]; rfl) ?_
        refine an_iast (f := u) (ws' := (wX g asked values bytes starts ends length parts texts lengths feet sorts nxt (nI (nv)) sums (upd (u) (i) (vsm values texts lengths counting custom i)) otherSums byFeet kept over rcount rcust ssums ways nextWays reached nextReached found least greatest)) hx hb hK hP (wX_D hd) hS 15 0 rfl rfl (by decide) (by omega) rfl dX4_putSums_45 (fun H locs hP hS => ?_)
        refine lv_iinc (v := (nI (i + 1))) (lv' := [(5, .int (nI (i + 1))), (6, .int (nI (i * 8))), (0, .ref (g.2.2 7)), (1, .ref (g.2.2 15)), (2, .ref (g.2.2 1)), (3, .int (nI (counting))), (4, .int (nI (custom)))]) hx hb dX4_putSums_46 hl (k := 6) rfl (nI_add _ 1) (by decide) rfl (fun ls hl => ?_)
        refine lv_goto (tgt := 3) hx hb dX4_putSums_49 (by decide) ?_
        exact ih_3 (i + 1) (upd u i (vsm values texts lengths counting custom i)) (by omega) (fillI_s (w := vsm values texts lengths counting custom) hu) (by omega) _ _ hP hS ls (lv_sub hl [2, 3, 4, 5, 6, 0] rfl)
  exact lp_3 (nv - (0) + 1) 0 oneSums (Nat.zero_le _) (fun k hk => absurd hk (Nat.not_lt_zero k)) (Nat.lt_succ_self _) _ _ hP hS ls (lv_sub hl [1, 2, 3, 4, 5, 0] rfl)
set_option maxHeartbeats 200000 in
set_option maxRecDepth 100000 in
theorem c_X4_putSums_otherSums (l : Launch) {g : GW} {asked : Int64} {values : Nat → Int32} {bytes : Nat → Int32} {starts : Nat → Int32} {ends : Nat → Int32} {length : Int32} {parts : Int32} {texts : Nat → Int32} {lengths : Nat → Int32} {feet : Nat → Int32} {sorts : Nat → Int32} {nxt : Nat → Int32} {nv : Nat} {sums : Nat → Int32} {oneSums : Nat → Int32} {otherSums : Nat → Int32} {byFeet : Nat → Int64} {kept : Nat → Int64} {over : Int32} {rcount : Int32} {rcust : Int32} {ssums : Nat → Int32} {ways : Nat → Int64} {nextWays : Nat → Int64} {reached : Nat → Int64} {nextReached : Nat → Int64} {found : Int32} {least : Int32} {greatest : Int32} {sz : Nat} (counting : Nat) (custom : Nat) (hc : counting < 3) (hk : custom < 4) (hnv : nv ≤ 10) (hle : okV lengths nv 1 8) (hd : dW 25 g.2.2) : Met l yX4_putSums wsX4_putSums ({ frames := 4, cells := 0, slots := 0, locals := 92 }) (va_Pc ([.ref (g.2.2 7), .ref (g.2.2 16), .ref (g.2.2 1), .int (nI (counting)), .int (nI (custom))]) (qW g (wX g asked values bytes starts ends length parts texts lengths feet sorts nxt (nI (nv)) sums oneSums otherSums byFeet kept over rcount rcust ssums ways nextWays reached nextReached found least greatest) sz)) (va_Qv (fun (z : (Nat → Int32)) => ∀ v, v < nv → z v = vsm values texts lengths counting custom v) (fun (z : (Nat → Int32)) (t : State) => va_P g.1 vwCl (wX g asked values bytes starts ends length parts texts lengths feet sorts nxt (nI (nv)) sums oneSums z byFeet kept over rcount rcust ssums ways nextWays reached nextReached found least greatest) t.heap) (aW 25 g.2.2 sz)) 0 0 (aW 25 g.2.2 sz) := by
  refine Met.ofW (cc := cX4_putSums) (maxL := 7) (ret := none) (by decide) rfl ?_
  intro p e s m args below meth c s₁ B hml hv
  obtain ⟨rfl, hsz9, hP, hK, hN⟩ := hv
  subst hsz9
  have hx := B.exec
  have hb := B.bytes
  have hr := B.returns
  have hts := atoms_spec (ws := wsX4_putSums) B.pre
  have hown : s.vm.findClass RX4 = some m.cls := findClass_of_methodNamed B.named
  have hlocks := B.notSynchronized
  have hS : va_S (aW 25 g.2.2 s.heap.size) s.heap s.heap [] := va_S.rf
  have hl := lv_entry ([.ref (g.2.2 7), .ref (g.2.2 16), .ref (g.2.2 1), .int (nI (counting)), .int (nI (custom))]) (n := 7) (Nat.le_of_ble_eq_true rfl)
  rw [lg_entry_eq]
  generalize (lg_sl ([.ref (g.2.2 7), .ref (g.2.2 16), .ref (g.2.2 1), .int (nI (counting)), .int (nI (custom))]) ++ List.replicate (7 - (lg_sl ([.ref (g.2.2 7), .ref (g.2.2 16), .ref (g.2.2 1), .int (nI (counting)), .int (nI (custom))])).length) Slot.unset).toArray = ls at hl ⊢
  have hl : lv_has ls 7 [(0, .ref (g.2.2 7)), (1, .ref (g.2.2 16)), (2, .ref (g.2.2 1)), (3, .int (nI (counting))), (4, .int (nI (custom)))] := hl
  refine lv_iconst (v := (nI (0))) hx hb dX4_putSums_0 (by decide) ?_
  refine lv_istore (lv' := [(5, .int (nI (0))), (0, .ref (g.2.2 7)), (1, .ref (g.2.2 16)), (2, .ref (g.2.2 1)), (3, .int (nI (counting))), (4, .int (nI (custom)))]) hx hb dX4_putSums_1 hl (by decide) rfl (fun ls hl => ?_)
  have lp_3 : ∀ (n : Nat) (i : Nat) (u : Nat → Int32), (i ≤ nv) → (∀ v, v < i → u v = vsm values texts lengths counting custom v) → nv - i < n → ∀ (H : Heap) (locs : List Loc), va_P g.1 vwCl (wX g asked values bytes starts ends length parts texts lengths feet sorts nxt (nI (nv)) sums oneSums u byFeet kept over rcount rcust ssums ways nextWays reached nextReached found least greatest) H → va_S (aW 25 g.2.2 s.heap.size) s.heap H locs → ∀ (ls : Array Slot), lv_has ls 7 [(0, .ref (g.2.2 7)), (1, .ref (g.2.2 16)), (2, .ref (g.2.2 1)), (3, .int (nI (counting))), (4, .int (nI (custom))), (5, .int (nI (i)))] → W p l e (headSpec wsX4_putSums ({ frames := 4, cells := 0, slots := 0, locals := 92 })).room s m (([.ref (g.2.2 7), .ref (g.2.2 16), .ref (g.2.2 1), .int (nI (counting)), .int (nI (custom))] : List Value).toArray) below meth c H locs 0 0 (MQ below (va_Qv (fun (z : (Nat → Int32)) => ∀ v, v < nv → z v = vsm values texts lengths counting custom v) (fun (z : (Nat → Int32)) (t : State) => va_P g.1 vwCl (wX g asked values bytes starts ends length parts texts lengths feet sorts nxt (nI (nv)) sums oneSums z byFeet kept over rcount rcust ssums ways nextWays reached nextReached found least greatest) t.heap) (aW 25 g.2.2 s.heap.size)) (([.ref (g.2.2 7), .ref (g.2.2 16), .ref (g.2.2 1), .int (nI (counting)), .int (nI (custom))] : List Value).toArray) s 0 0 (aW 25 g.2.2 s.heap.size)) (F0 m 3 ls []) := by
    intro n
    induction n with
    | zero => intro i u hi hu hm; exact absurd hm (Nat.not_lt_zero _)
    | succ n ih_3 =>
      intro i u hi hu hm_3 H locs hP hS ls hl
      refine lv_iload hx hb dX4_putSums_3 (lv_at hl 5 rfl) ?_
      refine lv_aload_n hx hb dX4_putSums_5 rfl (lv_at hl 0 rfl) ?_
      refine an_get (ci := 4) (v := .int (nI (nv))) (C := RX4) (T := TX4) (N := 6) hx hb hts iw_X4_putSums_X4 hown hK hP 7 rfl rfl 5 (by decide) (hts _ fl_X4_putSums_38) rfl dX4_putSums_6 ?_
      refine lv_icmp_ge (tgt := 52) hx hb dX4_putSums_9 (by decide) (fun c_9 => ?_) (fun c_9 => ?_)
      · have c_9 := (cv_le_nn (by omega) (by omega)).mp c_9
        exact wr_vret (u) hx hb hr hlocks (fun v hv => hu v (by omega)) (fun t ht => show va_P g.1 vwCl (wX g asked values bytes starts ends length parts texts lengths feet sorts nxt (nI (nv)) sums oneSums u byFeet kept over rcount rcust ssums ways nextWays reached nextReached found least greatest) t.heap by rw [ht]; exact hP) hS dX4_putSums_52
      · have c_9 := (not_congr (cv_le_nn (by omega) (by omega))).mp c_9
        refine lv_iload hx hb dX4_putSums_12 (lv_at hl 5 rfl) ?_
        refine lv_bipush (v := (nI (8))) hx hb dX4_putSums_14 (by decide) ?_
        refine ln_imul hx hb dX4_putSums_16 ?_
        refine lv_istore (lv' := [(6, .int (nI (i * 8))), (0, .ref (g.2.2 7)), (1, .ref (g.2.2 16)), (2, .ref (g.2.2 1)), (3, .int (nI (counting))), (4, .int (nI (custom))), (5, .int (nI (i)))]) hx hb dX4_putSums_17 hl (by decide) rfl (fun ls hl => ?_)
        refine lv_aload_n hx hb dX4_putSums_19 rfl (lv_at hl 2 rfl) ?_
        refine lv_iload hx hb dX4_putSums_20 (lv_at hl 6 rfl) ?_
        refine lv_aload_n hx hb dX4_putSums_22 rfl (lv_at hl 3 rfl) ?_
        refine lv_iload_n hx hb dX4_putSums_23 rfl (lv_at hl 4 rfl) ?_
        refine lv_iload hx hb dX4_putSums_24 (lv_at hl 5 rfl) ?_
        refine lv_aload_n hx hb dX4_putSums_26 rfl (lv_at hl 1 rfl) ?_
        refine an_get (ci := 4) (v := .ref (g.2.2 8)) (C := RX4) (T := TX4) (N := 6) hx hb hts iw_X4_putSums_X4 hown hK hP 7 rfl rfl 0 (by decide) (hts _ fl_X4_putSums_9) rfl dX4_putSums_27 ?_
        refine lv_iload hx hb dX4_putSums_30 (lv_at hl 0 rfl) ?_
        refine lv_iload hx hb dX4_putSums_32 (lv_at hl 0 rfl) ?_
        refine lv_aload_n hx hb dX4_putSums_34 rfl (lv_at hl 1 rfl) ?_
        refine an_get (ci := 4) (v := .ref (g.2.2 9)) (C := RX4) (T := TX4) (N := 6) hx hb hts iw_X4_putSums_X4 hown hK hP 7 rfl rfl 1 (by decide) (hts _ fl_X4_putSums_15) rfl dX4_putSums_35 ?_
        refine lv_iload hx hb dX4_putSums_38 (lv_at hl 6 rfl) ?_
        have hl8 := hle i (by omega)
        refine an_iald (f := lengths) hx hb hK hP 9 0 rfl rfl (by decide) (by omega) dX4_putSums_40 ?_
        refine ln_toi (y := (nI (tn (lengths i)))) (hl8.1) ?_
        refine ln_iadd hx hb dX4_putSums_41 ?_
        refine ro_call (va_runV (As := [.int (nI (counting)), .int (nI (custom)), .ref (g.2.2 8), .int (nI (i * 8)), .int (nI ((i * 8) + (tn (lengths i))))]) (rest := [.int (nI (i)), .ref (g.2.2 16)]) ⟨hx, hb, hml, hown, hts⟩ (c_X0_sumOf_texts l (g := g) (asked := asked) (values := values) (bytes := bytes) (starts := starts) (ends := ends) (length := length) (parts := parts) (texts := texts) (lengths := lengths) (feet := feet) (sorts := sorts) (nxt := nxt) (size := nI (nv)) (sums := sums) (oneSums := oneSums) (otherSums := u) (byFeet := byFeet) (kept := kept) (over := over) (rcount := rcount) (rcust := rcust) (ssums := ssums) (ways := ways) (nextWays := nextWays) (reached := reached) (nextReached := nextReached) (found := found) (least := least) (greatest := greatest) (counting) (custom) (i * 8) ((i * 8) + (tn (lengths i))) hc hk (by omega) (by omega)) (cwV 5 hts gX4_putSums_X0_sumOf rfl rfl rfl (by decide +kernel) ⟨Nat.le_of_ble_eq_true rfl, Nat.le_of_ble_eq_true rfl⟩) (pre_V pW_bl (va_recv hK hP (ci := 0) (q0 := 1) rfl rfl) (fun U hU hW => pW_of hP hK hN hU hW)) rfl rfl hl.1 rfl (lv_room (Nat.le_of_ble_eq_true rfl)) dX4_putSums_42 ⟨Nat.zero_le _, Nat.zero_le _⟩) ?_
        refine ln_toi (y := (vsm values texts lengths counting custom i)) (by show smv values counting custom texts (i * 8) (i * 8 + tn (lengths i) - i * 8) = _; rw [Nat.add_sub_cancel_left]; rfl) ?_
        refine an_iast (f := u) (ws' := (wX g asked values bytes starts ends length parts texts lengths feet sorts nxt (nI (nv)) sums oneSums (upd (u) (i) (vsm values texts lengths counting custom i)) byFeet kept over rcount rcust ssums ways nextWays reached nextReached found least greatest)) hx hb hK hP (wX_D hd) hS 16 0 rfl rfl (by decide) (by omega) rfl dX4_putSums_45 (fun H locs hP hS => ?_)
        refine lv_iinc (v := (nI (i + 1))) (lv' := [(5, .int (nI (i + 1))), (6, .int (nI (i * 8))), (0, .ref (g.2.2 7)), (1, .ref (g.2.2 16)), (2, .ref (g.2.2 1)), (3, .int (nI (counting))), (4, .int (nI (custom)))]) hx hb dX4_putSums_46 hl (k := 6) rfl (nI_add _ 1) (by decide) rfl (fun ls hl => ?_)
        refine lv_goto (tgt := 3) hx hb dX4_putSums_49 (by decide) ?_
        exact ih_3 (i + 1) (upd u i (vsm values texts lengths counting custom i)) (by omega) (fillI_s (w := vsm values texts lengths counting custom) hu) (by omega) _ _ hP hS ls (lv_sub hl [2, 3, 4, 5, 6, 0] rfl)
  exact lp_3 (nv - (0) + 1) 0 otherSums (Nat.zero_le _) (fun k hk => absurd hk (Nat.not_lt_zero k)) (Nat.lt_succ_self _) _ _ hP hS ls (lv_sub hl [1, 2, 3, 4, 5, 0] rfl)
set_option maxHeartbeats 200000 in
set_option maxRecDepth 100000 in
theorem c_X4_putSums_ssums (l : Launch) {g : GW} {asked : Int64} {values : Nat → Int32} {bytes : Nat → Int32} {starts : Nat → Int32} {ends : Nat → Int32} {length : Int32} {parts : Int32} {texts : Nat → Int32} {lengths : Nat → Int32} {feet : Nat → Int32} {sorts : Nat → Int32} {nxt : Nat → Int32} {nv : Nat} {sums : Nat → Int32} {oneSums : Nat → Int32} {otherSums : Nat → Int32} {byFeet : Nat → Int64} {kept : Nat → Int64} {over : Int32} {rcount : Int32} {rcust : Int32} {ssums : Nat → Int32} {ways : Nat → Int64} {nextWays : Nat → Int64} {reached : Nat → Int64} {nextReached : Nat → Int64} {found : Int32} {least : Int32} {greatest : Int32} {sz : Nat} (counting : Nat) (custom : Nat) (hc : counting < 3) (hk : custom < 4) (hnv : nv ≤ 10) (hle : okV lengths nv 1 8) (hd : dW 25 g.2.2) : Met l yX4_putSums wsX4_putSums ({ frames := 4, cells := 0, slots := 0, locals := 92 }) (va_Pc ([.ref (g.2.2 7), .ref (g.2.2 20), .ref (g.2.2 1), .int (nI (counting)), .int (nI (custom))]) (qW g (wX g asked values bytes starts ends length parts texts lengths feet sorts nxt (nI (nv)) sums oneSums otherSums byFeet kept over rcount rcust ssums ways nextWays reached nextReached found least greatest) sz)) (va_Qv (fun (z : (Nat → Int32)) => ∀ v, v < nv → z v = vsm values texts lengths counting custom v) (fun (z : (Nat → Int32)) (t : State) => va_P g.1 vwCl (wX g asked values bytes starts ends length parts texts lengths feet sorts nxt (nI (nv)) sums oneSums otherSums byFeet kept over rcount rcust z ways nextWays reached nextReached found least greatest) t.heap) (aW 25 g.2.2 sz)) 0 0 (aW 25 g.2.2 sz) := by
  refine Met.ofW (cc := cX4_putSums) (maxL := 7) (ret := none) (by decide) rfl ?_
  intro p e s m args below meth c s₁ B hml hv
  obtain ⟨rfl, hsz9, hP, hK, hN⟩ := hv
  subst hsz9
  have hx := B.exec
  have hb := B.bytes
  have hr := B.returns
  have hts := atoms_spec (ws := wsX4_putSums) B.pre
  have hown : s.vm.findClass RX4 = some m.cls := findClass_of_methodNamed B.named
  have hlocks := B.notSynchronized
  have hS : va_S (aW 25 g.2.2 s.heap.size) s.heap s.heap [] := va_S.rf
  have hl := lv_entry ([.ref (g.2.2 7), .ref (g.2.2 20), .ref (g.2.2 1), .int (nI (counting)), .int (nI (custom))]) (n := 7) (Nat.le_of_ble_eq_true rfl)
  rw [lg_entry_eq]
  generalize (lg_sl ([.ref (g.2.2 7), .ref (g.2.2 20), .ref (g.2.2 1), .int (nI (counting)), .int (nI (custom))]) ++ List.replicate (7 - (lg_sl ([.ref (g.2.2 7), .ref (g.2.2 20), .ref (g.2.2 1), .int (nI (counting)), .int (nI (custom))])).length) Slot.unset).toArray = ls at hl ⊢
  have hl : lv_has ls 7 [(0, .ref (g.2.2 7)), (1, .ref (g.2.2 20)), (2, .ref (g.2.2 1)), (3, .int (nI (counting))), (4, .int (nI (custom)))] := hl
  refine lv_iconst (v := (nI (0))) hx hb dX4_putSums_0 (by decide) ?_
  refine lv_istore (lv' := [(5, .int (nI (0))), (0, .ref (g.2.2 7)), (1, .ref (g.2.2 20)), (2, .ref (g.2.2 1)), (3, .int (nI (counting))), (4, .int (nI (custom)))]) hx hb dX4_putSums_1 hl (by decide) rfl (fun ls hl => ?_)
  have lp_3 : ∀ (n : Nat) (i : Nat) (u : Nat → Int32), (i ≤ nv) → (∀ v, v < i → u v = vsm values texts lengths counting custom v) → nv - i < n → ∀ (H : Heap) (locs : List Loc), va_P g.1 vwCl (wX g asked values bytes starts ends length parts texts lengths feet sorts nxt (nI (nv)) sums oneSums otherSums byFeet kept over rcount rcust u ways nextWays reached nextReached found least greatest) H → va_S (aW 25 g.2.2 s.heap.size) s.heap H locs → ∀ (ls : Array Slot), lv_has ls 7 [(0, .ref (g.2.2 7)), (1, .ref (g.2.2 20)), (2, .ref (g.2.2 1)), (3, .int (nI (counting))), (4, .int (nI (custom))), (5, .int (nI (i)))] → W p l e (headSpec wsX4_putSums ({ frames := 4, cells := 0, slots := 0, locals := 92 })).room s m (([.ref (g.2.2 7), .ref (g.2.2 20), .ref (g.2.2 1), .int (nI (counting)), .int (nI (custom))] : List Value).toArray) below meth c H locs 0 0 (MQ below (va_Qv (fun (z : (Nat → Int32)) => ∀ v, v < nv → z v = vsm values texts lengths counting custom v) (fun (z : (Nat → Int32)) (t : State) => va_P g.1 vwCl (wX g asked values bytes starts ends length parts texts lengths feet sorts nxt (nI (nv)) sums oneSums otherSums byFeet kept over rcount rcust z ways nextWays reached nextReached found least greatest) t.heap) (aW 25 g.2.2 s.heap.size)) (([.ref (g.2.2 7), .ref (g.2.2 20), .ref (g.2.2 1), .int (nI (counting)), .int (nI (custom))] : List Value).toArray) s 0 0 (aW 25 g.2.2 s.heap.size)) (F0 m 3 ls []) := by
    intro n
    induction n with
    | zero => intro i u hi hu hm; exact absurd hm (Nat.not_lt_zero _)
    | succ n ih_3 =>
      intro i u hi hu hm_3 H locs hP hS ls hl
      refine lv_iload hx hb dX4_putSums_3 (lv_at hl 5 rfl) ?_
      refine lv_aload_n hx hb dX4_putSums_5 rfl (lv_at hl 0 rfl) ?_
      refine an_get (ci := 4) (v := .int (nI (nv))) (C := RX4) (T := TX4) (N := 6) hx hb hts iw_X4_putSums_X4 hown hK hP 7 rfl rfl 5 (by decide) (hts _ fl_X4_putSums_38) rfl dX4_putSums_6 ?_
      refine lv_icmp_ge (tgt := 52) hx hb dX4_putSums_9 (by decide) (fun c_9 => ?_) (fun c_9 => ?_)
      · have c_9 := (cv_le_nn (by omega) (by omega)).mp c_9
        exact wr_vret (u) hx hb hr hlocks (fun v hv => hu v (by omega)) (fun t ht => show va_P g.1 vwCl (wX g asked values bytes starts ends length parts texts lengths feet sorts nxt (nI (nv)) sums oneSums otherSums byFeet kept over rcount rcust u ways nextWays reached nextReached found least greatest) t.heap by rw [ht]; exact hP) hS dX4_putSums_52
      · have c_9 := (not_congr (cv_le_nn (by omega) (by omega))).mp c_9
        refine lv_iload hx hb dX4_putSums_12 (lv_at hl 5 rfl) ?_
        refine lv_bipush (v := (nI (8))) hx hb dX4_putSums_14 (by decide) ?_
        refine ln_imul hx hb dX4_putSums_16 ?_
        refine lv_istore (lv' := [(6, .int (nI (i * 8))), (0, .ref (g.2.2 7)), (1, .ref (g.2.2 20)), (2, .ref (g.2.2 1)), (3, .int (nI (counting))), (4, .int (nI (custom))), (5, .int (nI (i)))]) hx hb dX4_putSums_17 hl (by decide) rfl (fun ls hl => ?_)
        refine lv_aload_n hx hb dX4_putSums_19 rfl (lv_at hl 2 rfl) ?_
        refine lv_iload hx hb dX4_putSums_20 (lv_at hl 6 rfl) ?_
        refine lv_aload_n hx hb dX4_putSums_22 rfl (lv_at hl 3 rfl) ?_
        refine lv_iload_n hx hb dX4_putSums_23 rfl (lv_at hl 4 rfl) ?_
        refine lv_iload hx hb dX4_putSums_24 (lv_at hl 5 rfl) ?_
        refine lv_aload_n hx hb dX4_putSums_26 rfl (lv_at hl 1 rfl) ?_
        refine an_get (ci := 4) (v := .ref (g.2.2 8)) (C := RX4) (T := TX4) (N := 6) hx hb hts iw_X4_putSums_X4 hown hK hP 7 rfl rfl 0 (by decide) (hts _ fl_X4_putSums_9) rfl dX4_putSums_27 ?_
        refine lv_iload hx hb dX4_putSums_30 (lv_at hl 0 rfl) ?_
        refine lv_iload hx hb dX4_putSums_32 (lv_at hl 0 rfl) ?_
        refine lv_aload_n hx hb dX4_putSums_34 rfl (lv_at hl 1 rfl) ?_
        refine an_get (ci := 4) (v := .ref (g.2.2 9)) (C := RX4) (T := TX4) (N := 6) hx hb hts iw_X4_putSums_X4 hown hK hP 7 rfl rfl 1 (by decide) (hts _ fl_X4_putSums_15) rfl dX4_putSums_35 ?_
        refine lv_iload hx hb dX4_putSums_38 (lv_at hl 6 rfl) ?_
        have hl8 := hle i (by omega)
        refine an_iald (f := lengths) hx hb hK hP 9 0 rfl rfl (by decide) (by omega) dX4_putSums_40 ?_
        refine ln_toi (y := (nI (tn (lengths i)))) (hl8.1) ?_
        refine ln_iadd hx hb dX4_putSums_41 ?_
        refine ro_call (va_runV (As := [.int (nI (counting)), .int (nI (custom)), .ref (g.2.2 8), .int (nI (i * 8)), .int (nI ((i * 8) + (tn (lengths i))))]) (rest := [.int (nI (i)), .ref (g.2.2 20)]) ⟨hx, hb, hml, hown, hts⟩ (c_X0_sumOf_texts l (g := g) (asked := asked) (values := values) (bytes := bytes) (starts := starts) (ends := ends) (length := length) (parts := parts) (texts := texts) (lengths := lengths) (feet := feet) (sorts := sorts) (nxt := nxt) (size := nI (nv)) (sums := sums) (oneSums := oneSums) (otherSums := otherSums) (byFeet := byFeet) (kept := kept) (over := over) (rcount := rcount) (rcust := rcust) (ssums := u) (ways := ways) (nextWays := nextWays) (reached := reached) (nextReached := nextReached) (found := found) (least := least) (greatest := greatest) (counting) (custom) (i * 8) ((i * 8) + (tn (lengths i))) hc hk (by omega) (by omega)) (cwV 5 hts gX4_putSums_X0_sumOf rfl rfl rfl (by decide +kernel) ⟨Nat.le_of_ble_eq_true rfl, Nat.le_of_ble_eq_true rfl⟩) (pre_V pW_bl (va_recv hK hP (ci := 0) (q0 := 1) rfl rfl) (fun U hU hW => pW_of hP hK hN hU hW)) rfl rfl hl.1 rfl (lv_room (Nat.le_of_ble_eq_true rfl)) dX4_putSums_42 ⟨Nat.zero_le _, Nat.zero_le _⟩) ?_
        refine ln_toi (y := (vsm values texts lengths counting custom i)) (by show smv values counting custom texts (i * 8) (i * 8 + tn (lengths i) - i * 8) = _; rw [Nat.add_sub_cancel_left]; rfl) ?_
        refine an_iast (f := u) (ws' := (wX g asked values bytes starts ends length parts texts lengths feet sorts nxt (nI (nv)) sums oneSums otherSums byFeet kept over rcount rcust (upd (u) (i) (vsm values texts lengths counting custom i)) ways nextWays reached nextReached found least greatest)) hx hb hK hP (wX_D hd) hS 20 0 rfl rfl (by decide) (by omega) rfl dX4_putSums_45 (fun H locs hP hS => ?_)
        refine lv_iinc (v := (nI (i + 1))) (lv' := [(5, .int (nI (i + 1))), (6, .int (nI (i * 8))), (0, .ref (g.2.2 7)), (1, .ref (g.2.2 20)), (2, .ref (g.2.2 1)), (3, .int (nI (counting))), (4, .int (nI (custom)))]) hx hb dX4_putSums_46 hl (k := 6) rfl (nI_add _ 1) (by decide) rfl (fun ls hl => ?_)
        refine lv_goto (tgt := 3) hx hb dX4_putSums_49 (by decide) ?_
        exact ih_3 (i + 1) (upd u i (vsm values texts lengths counting custom i)) (by omega) (fillI_s (w := vsm values texts lengths counting custom) hu) (by omega) _ _ hP hS ls (lv_sub hl [2, 3, 4, 5, 6, 0] rfl)
  exact lp_3 (nv - (0) + 1) 0 ssums (Nat.zero_le _) (fun k hk => absurd hk (Nat.not_lt_zero k)) (Nat.lt_succ_self _) _ _ hP hS ls (lv_sub hl [1, 2, 3, 4, 5, 0] rfl)
theorem iw_X1_findParts_X1 : ∀ w ∈ u_ws RX1 TX1 5, w ∈ wsX1_findParts := by decide +kernel
theorem fl_X1_findParts_9 : Cond.fieldLink RX1 9 (TX1 0).1 (TX1 0).2.1 (TX1 0).2.2.1 ∈ wsX1_findParts := by decide +kernel
theorem fl_X1_findParts_15 : Cond.fieldLink RX1 15 (TX1 1).1 (TX1 1).2.1 (TX1 1).2.2.1 ∈ wsX1_findParts := by decide +kernel
theorem fl_X1_findParts_18 : Cond.fieldLink RX1 18 (TX1 2).1 (TX1 2).2.1 (TX1 2).2.2.1 ∈ wsX1_findParts := by decide +kernel
theorem fl_X1_findParts_21 : Cond.fieldLink RX1 21 (TX1 3).1 (TX1 3).2.1 (TX1 3).2.2.1 ∈ wsX1_findParts := by decide +kernel
theorem fl_X1_findParts_32 : Cond.fieldLink RX1 32 (TX1 4).1 (TX1 4).2.1 (TX1 4).2.2.1 ∈ wsX1_findParts := by decide +kernel
set_option maxHeartbeats 200000 in
set_option maxRecDepth 100000 in
theorem c_X1_findParts (l : Launch) {g : GW} {asked : Int64} {values : Nat → Int32} {bytes : Nat → Int32} {starts : Nat → Int32} {ends : Nat → Int32} {L : Nat} {parts : Int32} {texts : Nat → Int32} {lengths : Nat → Int32} {feet : Nat → Int32} {sorts : Nat → Int32} {nxt : Nat → Int32} {size : Int32} {sums : Nat → Int32} {oneSums : Nat → Int32} {otherSums : Nat → Int32} {byFeet : Nat → Int64} {kept : Nat → Int64} {over : Int32} {rcount : Int32} {rcust : Int32} {ssums : Nat → Int32} {ways : Nat → Int64} {nextWays : Nat → Int64} {reached : Nat → Int64} {nextReached : Nat → Int64} {found : Int32} {least : Int32} {greatest : Int32} {sz : Nat} (hL2 : L ≤ 40) (hd : dW 25 g.2.2) : Met l yX1_findParts wsX1_findParts ({ frames := 0, cells := 0, slots := 0, locals := 0 }) (va_Pc ([.ref (g.2.2 3)]) (qW g (wX g asked values bytes starts ends (nI (L)) parts texts lengths feet sorts nxt size sums oneSums otherSums byFeet kept over rcount rcust ssums ways nextWays reached nextReached found least greatest) sz)) (va_Qv (fun (z : (Nat → Int32) × (Nat → Int32) × Int32) => z.2.2 = nI (pn bytes L) ∧ prow bytes L z.1 z.2.1) (fun (z : (Nat → Int32) × (Nat → Int32) × Int32) (t : State) => va_P g.1 vwCl (wX g asked values bytes (z.1) (z.2.1) (nI (L)) (z.2.2) texts lengths feet sorts nxt size sums oneSums otherSums byFeet kept over rcount rcust ssums ways nextWays reached nextReached found least greatest) t.heap) (aW 25 g.2.2 sz)) 0 0 (aW 25 g.2.2 sz) := by
  refine Met.ofW (cc := cX1_findParts) (maxL := 3) (ret := none) (by decide) rfl ?_
  intro p e s m args below meth c s₁ B hml hv
  obtain ⟨rfl, hsz9, hP, hK, hN⟩ := hv
  subst hsz9
  have hx := B.exec
  have hb := B.bytes
  have hr := B.returns
  have hts := atoms_spec (ws := wsX1_findParts) B.pre
  have hown : s.vm.findClass RX1 = some m.cls := findClass_of_methodNamed B.named
  have hlocks := B.notSynchronized
  have hS : va_S (aW 25 g.2.2 s.heap.size) s.heap s.heap [] := va_S.rf
  have hl := lv_entry ([.ref (g.2.2 3)]) (n := 3) (Nat.le_of_ble_eq_true rfl)
  rw [lg_entry_eq]
  generalize (lg_sl ([.ref (g.2.2 3)]) ++ List.replicate (3 - (lg_sl ([.ref (g.2.2 3)])).length) Slot.unset).toArray = ls at hl ⊢
  have hl : lv_has ls 3 [(0, .ref (g.2.2 3))] := hl
  refine lv_aload_n hx hb dX1_findParts_0 rfl (lv_at hl 0 rfl) ?_
  refine lv_iconst (v := (nI (0))) hx hb dX1_findParts_1 (by decide) ?_
  refine an_put (ci := 1) (v := .int (nI (0))) (ty := .int) (C := RX1) (T := TX1) (N := 5) (ws' := (wX g asked values bytes starts ends (nI (L)) ((nI (0))) texts lengths feet sorts nxt size sums oneSums otherSums byFeet kept over rcount rcust ssums ways nextWays reached nextReached found least greatest)) hx hb hts iw_X1_findParts_X1 tyX1 tyX1_ok nmX1 hown hK hP (wX_D hd) hS 3 rfl rfl 4 (by decide) (hts _ fl_X1_findParts_32) rfl (by decide +kernel) (rfl) (rfl) (Nat.le_of_ble_eq_true rfl) rfl dX1_findParts_2 (fun H locs hP hS => ?_)
  refine lv_bipush (v := (nI (32))) hx hb dX1_findParts_5 (by decide) ?_
  refine lv_istore_n (lv' := [(1, .int (nI (32))), (0, .ref (g.2.2 3))]) hx hb dX1_findParts_7 rfl hl (by decide) rfl (fun ls hl => ?_)
  refine lv_iconst (v := (nI (0))) hx hb dX1_findParts_8 (by decide) ?_
  refine lv_istore_n (lv' := [(2, .int (nI (0))), (1, .int (nI (32))), (0, .ref (g.2.2 3))]) hx hb dX1_findParts_9 rfl hl (by decide) rfl (fun ls hl => ?_)
  have lp_10 : ∀ (n : Nat) (k : Nat) (st : Nat → Int32) (en : Nat → Int32), (k ≤ L) → (prow bytes k st en) → L - k < n → ∀ (H : Heap) (locs : List Loc), va_P g.1 vwCl (wX g asked values bytes st en (nI (L)) (nI (pn bytes k)) texts lengths feet sorts nxt size sums oneSums otherSums byFeet kept over rcount rcust ssums ways nextWays reached nextReached found least greatest) H → va_S (aW 25 g.2.2 s.heap.size) s.heap H locs → ∀ (ls : Array Slot), lv_has ls 3 [(0, .ref (g.2.2 3)), (1, .int (ahd bytes 0 k)), (2, .int (nI (k)))] → W p l e (headSpec wsX1_findParts ({ frames := 0, cells := 0, slots := 0, locals := 0 })).room s m (([.ref (g.2.2 3)] : List Value).toArray) below meth c H locs 0 0 (MQ below (va_Qv (fun (z : (Nat → Int32) × (Nat → Int32) × Int32) => z.2.2 = nI (pn bytes L) ∧ prow bytes L z.1 z.2.1) (fun (z : (Nat → Int32) × (Nat → Int32) × Int32) (t : State) => va_P g.1 vwCl (wX g asked values bytes (z.1) (z.2.1) (nI (L)) (z.2.2) texts lengths feet sorts nxt size sums oneSums otherSums byFeet kept over rcount rcust ssums ways nextWays reached nextReached found least greatest) t.heap) (aW 25 g.2.2 s.heap.size)) (([.ref (g.2.2 3)] : List Value).toArray) s 0 0 (aW 25 g.2.2 s.heap.size)) (F0 m 10 ls []) := by
    intro n
    induction n with
    | zero => intro k st en hi hrr hm; exact absurd hm (Nat.not_lt_zero _)
    | succ n ih_10 =>
      intro k st en hi hrr hm_10 H locs hP hS ls hl
      have hrm := pn_room bytes k
      have hah : bytes k = ahd bytes 0 (k + 1) := by show _ = bytes (0 + k); rw [Nat.zero_add]
      refine lv_iload_n hx hb dX1_findParts_10 rfl (lv_at hl 2 rfl) ?_
      refine lv_aload_n hx hb dX1_findParts_11 rfl (lv_at hl 0 rfl) ?_
      refine an_get (ci := 1) (v := .int (nI (L))) (C := RX1) (T := TX1) (N := 5) hx hb hts iw_X1_findParts_X1 hown hK hP 3 rfl rfl 3 (by decide) (hts _ fl_X1_findParts_21) rfl dX1_findParts_12 ?_
      refine lv_icmp_ge (tgt := 109) hx hb dX1_findParts_15 (by decide) (fun c_15 => ?_) (fun c_15 => ?_)
      · have c_15 := (cv_le_nn (by omega) (by omega)).mp c_15
        exact wr_vret (st, en, nI (pn bytes k)) hx hb hr hlocks (by rw [show L = k by omega]; exact ⟨rfl, hrr⟩) (fun t ht => show va_P g.1 vwCl (wX g asked values bytes st en (nI (L)) (nI (pn bytes k)) texts lengths feet sorts nxt size sums oneSums otherSums byFeet kept over rcount rcust ssums ways nextWays reached nextReached found least greatest) t.heap by rw [ht]; exact hP) hS dX1_findParts_109
      · have c_15 := (not_congr (cv_le_nn (by omega) (by omega))).mp c_15
        refine lv_aload_n hx hb dX1_findParts_18 rfl (lv_at hl 0 rfl) ?_
        refine an_get (ci := 1) (v := .ref (g.2.2 4)) (C := RX1) (T := TX1) (N := 5) hx hb hts iw_X1_findParts_X1 hown hK hP 3 rfl rfl 0 (by decide) (hts _ fl_X1_findParts_9) rfl dX1_findParts_19 ?_
        refine lv_iload_n hx hb dX1_findParts_22 rfl (lv_at hl 2 rfl) ?_
        refine an_iald (f := bytes) hx hb hK hP 4 0 rfl rfl (by decide) (by omega) dX1_findParts_23 ?_
        refine lv_bipush (v := (nI (32))) hx hb dX1_findParts_24 (by decide) ?_
        refine lv_icmp_eq (tgt := 64) hx hb dX1_findParts_26 (by decide) (fun c_26 => ?_) (fun c_26 => ?_)
        · have c_26 := (cv_eq_in (by omega)).mp c_26
          refine lv_aload_n hx hb dX1_findParts_64 rfl (lv_at hl 0 rfl) ?_
          refine an_get (ci := 1) (v := .ref (g.2.2 4)) (C := RX1) (T := TX1) (N := 5) hx hb hts iw_X1_findParts_X1 hown hK hP 3 rfl rfl 0 (by decide) (hts _ fl_X1_findParts_9) rfl dX1_findParts_65 ?_
          refine lv_iload_n hx hb dX1_findParts_68 rfl (lv_at hl 2 rfl) ?_
          refine an_iald (f := bytes) hx hb hK hP 4 0 rfl rfl (by decide) (by omega) dX1_findParts_69 ?_
          refine lv_bipush (v := (nI (32))) hx hb dX1_findParts_70 (by decide) ?_
          refine lv_icmp_eq (tgt := 96) hx hb dX1_findParts_72 (by decide) (fun c_72 => ?_) (fun c_72 => ?_)
          · have c_72 := (cv_eq_in (by omega)).mp c_72
            refine lv_aload_n hx hb dX1_findParts_96 rfl (lv_at hl 0 rfl) ?_
            refine an_get (ci := 1) (v := .ref (g.2.2 4)) (C := RX1) (T := TX1) (N := 5) hx hb hts iw_X1_findParts_X1 hown hK hP 3 rfl rfl 0 (by decide) (hts _ fl_X1_findParts_9) rfl dX1_findParts_97 ?_
            refine lv_iload_n hx hb dX1_findParts_100 rfl (lv_at hl 2 rfl) ?_
            refine an_iald (f := bytes) hx hb hK hP 4 0 rfl rfl (by decide) (by omega) dX1_findParts_101 ?_
            refine lv_istore_n (lv' := [(1, .int (bytes (k))), (0, .ref (g.2.2 3)), (2, .int (nI (k)))]) hx hb dX1_findParts_102 rfl hl (by decide) rfl (fun ls hl => ?_)
            refine lv_iinc (v := (nI (k + 1))) (lv' := [(2, .int (nI (k + 1))), (1, .int (bytes (k))), (0, .ref (g.2.2 3))]) hx hb dX1_findParts_103 hl (k := 2) rfl (nI_add _ 1) (by decide) rfl (fun ls hl => ?_)
            refine lv_goto (tgt := 10) hx hb dX1_findParts_106 (by decide) ?_
            rw [← pn_old (Or.inl c_26)] at hP
            rw [hah] at hl
            exact ih_10 (k + 1) st en (by omega) (prow_sp hrr c_26) (by omega) _ _ hP hS ls (lv_sub hl [2, 1, 0] rfl)
          · have c_72 := (not_congr (cv_eq_in (by omega))).mp c_72
            exact absurd c_26 c_72
        · have c_26 := (not_congr (cv_eq_in (by omega))).mp c_26
          refine lv_iload_n hx hb dX1_findParts_29 rfl (lv_at hl 1 rfl) ?_
          refine lv_bipush (v := (nI (32))) hx hb dX1_findParts_30 (by decide) ?_
          refine lv_icmp_ne (tgt := 64) hx hb dX1_findParts_32 (by decide) (fun c_32 => ?_) (fun c_32 => ?_)
          · have c_32 := (not_congr (cv_eq_in (by omega))).mp c_32
            refine lv_aload_n hx hb dX1_findParts_64 rfl (lv_at hl 0 rfl) ?_
            refine an_get (ci := 1) (v := .ref (g.2.2 4)) (C := RX1) (T := TX1) (N := 5) hx hb hts iw_X1_findParts_X1 hown hK hP 3 rfl rfl 0 (by decide) (hts _ fl_X1_findParts_9) rfl dX1_findParts_65 ?_
            refine lv_iload_n hx hb dX1_findParts_68 rfl (lv_at hl 2 rfl) ?_
            refine an_iald (f := bytes) hx hb hK hP 4 0 rfl rfl (by decide) (by omega) dX1_findParts_69 ?_
            refine lv_bipush (v := (nI (32))) hx hb dX1_findParts_70 (by decide) ?_
            refine lv_icmp_eq (tgt := 96) hx hb dX1_findParts_72 (by decide) (fun c_72 => ?_) (fun c_72 => ?_)
            · have c_72 := (cv_eq_in (by omega)).mp c_72
              exact absurd c_72 c_26
            · have c_72 := (not_congr (cv_eq_in (by omega))).mp c_72
              have h75 : 1 ≤ pn bytes k ∨ (ahd bytes 0 k).toInt = 32 := by by_cases z : (ahd bytes 0 k).toInt = 32; exact Or.inr z; exact Or.inl (hrm.2.2 z)
              refine lv_aload_n hx hb dX1_findParts_75 rfl (lv_at hl 0 rfl) ?_
              refine an_get (ci := 1) (v := .int (nI (pn bytes k))) (C := RX1) (T := TX1) (N := 5) hx hb hts iw_X1_findParts_X1 hown hK hP 3 rfl rfl 4 (by decide) (hts _ fl_X1_findParts_32) rfl dX1_findParts_76 ?_
              refine lv_if_le (tgt := 96) hx hb dX1_findParts_79 (by decide) (fun c_79 => ?_) (fun c_79 => ?_)
              · have c_79 := (cz_le_n (by omega)).mp c_79
                exact absurd c_79 (by omega)
              · have c_79 := (not_congr (cz_le_n (by omega))).mp c_79
                refine lv_aload_n hx hb dX1_findParts_82 rfl (lv_at hl 0 rfl) ?_
                refine an_get (ci := 1) (v := .ref (g.2.2 6)) (C := RX1) (T := TX1) (N := 5) hx hb hts iw_X1_findParts_X1 hown hK hP 3 rfl rfl 2 (by decide) (hts _ fl_X1_findParts_18) rfl dX1_findParts_83 ?_
                refine lv_aload_n hx hb dX1_findParts_86 rfl (lv_at hl 0 rfl) ?_
                refine an_get (ci := 1) (v := .int (nI (pn bytes k))) (C := RX1) (T := TX1) (N := 5) hx hb hts iw_X1_findParts_X1 hown hK hP 3 rfl rfl 4 (by decide) (hts _ fl_X1_findParts_32) rfl dX1_findParts_87 ?_
                refine lv_iconst (v := (nI (1))) hx hb dX1_findParts_90 (by decide) ?_
                refine ln_isub hx hb (by omega) dX1_findParts_91 ?_
                refine lv_iload_n hx hb dX1_findParts_92 rfl (lv_at hl 2 rfl) ?_
                refine lv_iconst (v := (nI (1))) hx hb dX1_findParts_93 (by decide) ?_
                refine ln_iadd hx hb dX1_findParts_94 ?_
                refine an_iast (f := en) (ws' := (wX g asked values bytes st (upd (en) ((pn bytes k) - 1) (nI (k + 1))) (nI (L)) (nI (pn bytes k)) texts lengths feet sorts nxt size sums oneSums otherSums byFeet kept over rcount rcust ssums ways nextWays reached nextReached found least greatest)) hx hb hK hP (wX_D hd) hS 6 0 rfl rfl (by decide) (by omega) rfl dX1_findParts_95 (fun H locs hP hS => ?_)
                refine lv_aload_n hx hb dX1_findParts_96 rfl (lv_at hl 0 rfl) ?_
                refine an_get (ci := 1) (v := .ref (g.2.2 4)) (C := RX1) (T := TX1) (N := 5) hx hb hts iw_X1_findParts_X1 hown hK hP 3 rfl rfl 0 (by decide) (hts _ fl_X1_findParts_9) rfl dX1_findParts_97 ?_
                refine lv_iload_n hx hb dX1_findParts_100 rfl (lv_at hl 2 rfl) ?_
                refine an_iald (f := bytes) hx hb hK hP 4 0 rfl rfl (by decide) (by omega) dX1_findParts_101 ?_
                refine lv_istore_n (lv' := [(1, .int (bytes (k))), (0, .ref (g.2.2 3)), (2, .int (nI (k)))]) hx hb dX1_findParts_102 rfl hl (by decide) rfl (fun ls hl => ?_)
                refine lv_iinc (v := (nI (k + 1))) (lv' := [(2, .int (nI (k + 1))), (1, .int (bytes (k))), (0, .ref (g.2.2 3))]) hx hb dX1_findParts_103 hl (k := 2) rfl (nI_add _ 1) (by decide) rfl (fun ls hl => ?_)
                refine lv_goto (tgt := 10) hx hb dX1_findParts_106 (by decide) ?_
                rw [← pn_old (Or.inr c_32)] at hP
                rw [hah] at hl
                exact ih_10 (k + 1) st (upd en (pn bytes (k + 1) - 1) (nI (k + 1))) (by omega) (by rw [pn_old (Or.inr c_32)]; exact prow_in hrr c_26 c_32) (by omega) _ _ hP hS ls (lv_sub hl [2, 1, 0] rfl)
          · have c_32 := (cv_eq_in (by omega)).mp c_32
            have h35 := hrm.2.1 (by omega)
            refine lv_aload_n hx hb dX1_findParts_35 rfl (lv_at hl 0 rfl) ?_
            refine an_get (ci := 1) (v := .int (nI (pn bytes k))) (C := RX1) (T := TX1) (N := 5) hx hb hts iw_X1_findParts_X1 hown hK hP 3 rfl rfl 4 (by decide) (hts _ fl_X1_findParts_32) rfl dX1_findParts_36 ?_
            refine lv_bipush (v := (nI (20))) hx hb dX1_findParts_39 (by decide) ?_
            refine lv_icmp_ge (tgt := 64) hx hb dX1_findParts_41 (by decide) (fun c_41 => ?_) (fun c_41 => ?_)
            · have c_41 := (cv_le_nn (by omega) (by omega)).mp c_41
              exact absurd c_41 (by omega)
            · have c_41 := (not_congr (cv_le_nn (by omega) (by omega))).mp c_41
              refine lv_aload_n hx hb dX1_findParts_44 rfl (lv_at hl 0 rfl) ?_
              refine an_get (ci := 1) (v := .ref (g.2.2 5)) (C := RX1) (T := TX1) (N := 5) hx hb hts iw_X1_findParts_X1 hown hK hP 3 rfl rfl 1 (by decide) (hts _ fl_X1_findParts_15) rfl dX1_findParts_45 ?_
              refine lv_aload_n hx hb dX1_findParts_48 rfl (lv_at hl 0 rfl) ?_
              refine an_get (ci := 1) (v := .int (nI (pn bytes k))) (C := RX1) (T := TX1) (N := 5) hx hb hts iw_X1_findParts_X1 hown hK hP 3 rfl rfl 4 (by decide) (hts _ fl_X1_findParts_32) rfl dX1_findParts_49 ?_
              refine lv_iload_n hx hb dX1_findParts_52 rfl (lv_at hl 2 rfl) ?_
              refine an_iast (f := st) (ws' := (wX g asked values bytes (upd (st) (pn bytes k) (nI (k))) en (nI (L)) (nI (pn bytes k)) texts lengths feet sorts nxt size sums oneSums otherSums byFeet kept over rcount rcust ssums ways nextWays reached nextReached found least greatest)) hx hb hK hP (wX_D hd) hS 5 0 rfl rfl (by decide) (by omega) rfl dX1_findParts_53 (fun H locs hP hS => ?_)
              refine lv_aload_n hx hb dX1_findParts_54 rfl (lv_at hl 0 rfl) ?_
              refine lv_dup hx hb dX1_findParts_55 rfl ?_
              refine an_get (ci := 1) (v := .int (nI (pn bytes k))) (C := RX1) (T := TX1) (N := 5) hx hb hts iw_X1_findParts_X1 hown hK hP 3 rfl rfl 4 (by decide) (hts _ fl_X1_findParts_32) rfl dX1_findParts_56 ?_
              refine lv_iconst (v := (nI (1))) hx hb dX1_findParts_59 (by decide) ?_
              refine ln_iadd hx hb dX1_findParts_60 ?_
              refine an_put (ci := 1) (v := .int (nI ((pn bytes k) + 1))) (ty := .int) (C := RX1) (T := TX1) (N := 5) (ws' := (wX g asked values bytes (upd (st) (pn bytes k) (nI (k))) en (nI (L)) ((nI ((pn bytes k) + 1))) texts lengths feet sorts nxt size sums oneSums otherSums byFeet kept over rcount rcust ssums ways nextWays reached nextReached found least greatest)) hx hb hts iw_X1_findParts_X1 tyX1 tyX1_ok nmX1 hown hK hP (wX_D hd) hS 3 rfl rfl 4 (by decide) (hts _ fl_X1_findParts_32) rfl (by decide +kernel) (rfl) (rfl) (Nat.le_of_ble_eq_true rfl) rfl dX1_findParts_61 (fun H locs hP hS => ?_)
              refine lv_aload_n hx hb dX1_findParts_64 rfl (lv_at hl 0 rfl) ?_
              refine an_get (ci := 1) (v := .ref (g.2.2 4)) (C := RX1) (T := TX1) (N := 5) hx hb hts iw_X1_findParts_X1 hown hK hP 3 rfl rfl 0 (by decide) (hts _ fl_X1_findParts_9) rfl dX1_findParts_65 ?_
              refine lv_iload_n hx hb dX1_findParts_68 rfl (lv_at hl 2 rfl) ?_
              refine an_iald (f := bytes) hx hb hK hP 4 0 rfl rfl (by decide) (by omega) dX1_findParts_69 ?_
              refine lv_bipush (v := (nI (32))) hx hb dX1_findParts_70 (by decide) ?_
              refine lv_icmp_eq (tgt := 96) hx hb dX1_findParts_72 (by decide) (fun c_72 => ?_) (fun c_72 => ?_)
              · have c_72 := (cv_eq_in (by omega)).mp c_72
                exact absurd c_72 c_26
              · have c_72 := (not_congr (cv_eq_in (by omega))).mp c_72
                have h75 : 1 ≤ pn bytes k ∨ (ahd bytes 0 k).toInt = 32 := by by_cases z : (ahd bytes 0 k).toInt = 32; exact Or.inr z; exact Or.inl (hrm.2.2 z)
                refine lv_aload_n hx hb dX1_findParts_75 rfl (lv_at hl 0 rfl) ?_
                refine an_get (ci := 1) (v := .int (nI ((pn bytes k) + 1))) (C := RX1) (T := TX1) (N := 5) hx hb hts iw_X1_findParts_X1 hown hK hP 3 rfl rfl 4 (by decide) (hts _ fl_X1_findParts_32) rfl dX1_findParts_76 ?_
                refine lv_if_le (tgt := 96) hx hb dX1_findParts_79 (by decide) (fun c_79 => ?_) (fun c_79 => ?_)
                · have c_79 := (cz_le_n (by omega)).mp c_79
                  exact absurd c_79 (by omega)
                · have c_79 := (not_congr (cz_le_n (by omega))).mp c_79
                  refine lv_aload_n hx hb dX1_findParts_82 rfl (lv_at hl 0 rfl) ?_
                  refine an_get (ci := 1) (v := .ref (g.2.2 6)) (C := RX1) (T := TX1) (N := 5) hx hb hts iw_X1_findParts_X1 hown hK hP 3 rfl rfl 2 (by decide) (hts _ fl_X1_findParts_18) rfl dX1_findParts_83 ?_
                  refine lv_aload_n hx hb dX1_findParts_86 rfl (lv_at hl 0 rfl) ?_
                  refine an_get (ci := 1) (v := .int (nI ((pn bytes k) + 1))) (C := RX1) (T := TX1) (N := 5) hx hb hts iw_X1_findParts_X1 hown hK hP 3 rfl rfl 4 (by decide) (hts _ fl_X1_findParts_32) rfl dX1_findParts_87 ?_
                  refine lv_iconst (v := (nI (1))) hx hb dX1_findParts_90 (by decide) ?_
                  refine ln_isub hx hb (by omega) dX1_findParts_91 ?_
                  refine lv_iload_n hx hb dX1_findParts_92 rfl (lv_at hl 2 rfl) ?_
                  refine lv_iconst (v := (nI (1))) hx hb dX1_findParts_93 (by decide) ?_
                  refine ln_iadd hx hb dX1_findParts_94 ?_
                  refine an_iast (f := en) (ws' := (wX g asked values bytes (upd (st) (pn bytes k) (nI (k))) (upd (en) (((pn bytes k) + 1) - 1) (nI (k + 1))) (nI (L)) ((nI ((pn bytes k) + 1))) texts lengths feet sorts nxt size sums oneSums otherSums byFeet kept over rcount rcust ssums ways nextWays reached nextReached found least greatest)) hx hb hK hP (wX_D hd) hS 6 0 rfl rfl (by decide) (by omega) rfl dX1_findParts_95 (fun H locs hP hS => ?_)
                  refine lv_aload_n hx hb dX1_findParts_96 rfl (lv_at hl 0 rfl) ?_
                  refine an_get (ci := 1) (v := .ref (g.2.2 4)) (C := RX1) (T := TX1) (N := 5) hx hb hts iw_X1_findParts_X1 hown hK hP 3 rfl rfl 0 (by decide) (hts _ fl_X1_findParts_9) rfl dX1_findParts_97 ?_
                  refine lv_iload_n hx hb dX1_findParts_100 rfl (lv_at hl 2 rfl) ?_
                  refine an_iald (f := bytes) hx hb hK hP 4 0 rfl rfl (by decide) (by omega) dX1_findParts_101 ?_
                  refine lv_istore_n (lv' := [(1, .int (bytes (k))), (0, .ref (g.2.2 3)), (2, .int (nI (k)))]) hx hb dX1_findParts_102 rfl hl (by decide) rfl (fun ls hl => ?_)
                  refine lv_iinc (v := (nI (k + 1))) (lv' := [(2, .int (nI (k + 1))), (1, .int (bytes (k))), (0, .ref (g.2.2 3))]) hx hb dX1_findParts_103 hl (k := 2) rfl (nI_add _ 1) (by decide) rfl (fun ls hl => ?_)
                  refine lv_goto (tgt := 10) hx hb dX1_findParts_106 (by decide) ?_
                  rw [Nat.add_sub_cancel] at hP
                  rw [← pn_new c_26 c_32] at hP
                  rw [hah] at hl
                  exact ih_10 (k + 1) (upd st (pn bytes k) (nI k)) (upd en (pn bytes k) (nI (k + 1))) (by omega) (prow_new hrr c_26 c_32) (by omega) _ _ hP hS ls (lv_sub hl [2, 1, 0] rfl)
  exact lp_10 (L - (0) + 1) 0 starts ends (Nat.zero_le _) (fun i hi => absurd hi (Nat.not_lt_zero i)) (Nat.lt_succ_self _) _ _ hP hS ls (lv_sub hl [2, 1, 0] rfl)
