set_option maxHeartbeats 1000000 in
set_option maxRecDepth 100000 in
theorem c_J7_fill_53178 (l : Launch) {g : GW} (h0 : Nat) (f : Nat → Int32) (v : Int32) (sz : Nat) : Met l yJ7_fill_53178 wsJ7_fill_53178 ({ frames := 0, cells := 0, slots := 0, locals := 0 }) (va_Pc ([.ref h0, .int v]) (cW g [(h0, .inl (g.2.1.1, 4, .inl f))] sz)) (va_Qv (fun (u : Unit) => True) (fun (u : Unit) (t : State) => va_P g.1 vwCl ([(h0, .inl (g.2.1.1, 4, .inl (fil f v 4)))]) t.heap ∧ va_D (va_A [(h0, .inl (g.2.1.1, 4, .inl f))] sz) ([(h0, .inl (g.2.1.1, 4, .inl (fil f v 4)))])) (va_A [(h0, .inl (g.2.1.1, 4, .inl f))] sz)) 0 0 (va_A [(h0, .inl (g.2.1.1, 4, .inl f))] sz) := by
  refine Met.ofW (cc := cJ7_fill_53178) (maxL := 4) (ret := none) (by decide) rfl ?_
  intro p e s m args below meth c s₁ B hml hv
  obtain ⟨rfl, hsz, hP, hK, hN, hD0⟩ := hv
  have hx := B.exec
  have hb := B.bytes
  have hr := B.returns
  have hts := atoms_spec (ws := wsJ7_fill_53178) B.pre
  have hown : s.vm.findClass RJ7 = some m.cls := findClass_of_methodNamed B.named
  have hlocks := B.notSynchronized
  subst hsz
  have hD := hD0.self (sz := s.heap.size)
  generalize hAe : va_A [(h0, .inl (g.2.1.1, 4, .inl f))] s.heap.size = A at hD ⊢
  have hA : ∀ q : Nat, s.heap.size ≤ q → A q := fun q h => by rw [← hAe]; exact Or.inr h
  have hS : va_S A s.heap s.heap [] := va_S.rf
  have hl := lv_entry ([.ref h0, .int v]) (n := 4) (Nat.le_of_ble_eq_true rfl)
  rw [lg_entry_eq]
  generalize (lg_sl ([.ref h0, .int v]) ++ List.replicate (4 - (lg_sl ([.ref h0, .int v])).length) Slot.unset).toArray = ls at hl ⊢
  have hl : lv_has ls 4 [(0, .ref h0), (1, .int v)] := hl
  refine lv_iconst (v := nI 0) hx hb dJ7_fill_53178_0 (by decide) ?_
  refine lv_istore_n (lv' := [(2, .int (nI 0)), (0, .ref h0), (1, .int v)]) hx hb dJ7_fill_53178_1 rfl hl (by decide) rfl (fun ls hl => ?_)
  refine lv_aload_n hx hb dJ7_fill_53178_2 rfl (lv_at hl 1 rfl) ?_
  refine va_alen (v := nI 4) hx hb hK hP 0 0 rfl rfl rfl dJ7_fill_53178_3 ?_
  refine lv_istore_n (lv' := [(3, .int (nI 4)), (2, .int (nI 0)), (0, .ref h0), (1, .int v)]) hx hb dJ7_fill_53178_4 rfl hl (by decide) rfl (fun ls hl => ?_)
  rw [← fil_0 f v] at hP
  have lp : ∀ (n i : Nat), i ≤ 4 → 4 - i < n → ∀ (H : Heap) (locs : List Loc), va_P g.1 vwCl [(h0, .inl (g.2.1.1, 4, .inl (fil f v i)))] H → va_D A [(h0, .inl (g.2.1.1, 4, .inl (fil f v i)))] → va_S A s.heap H locs → ∀ (ls : Array Slot), lv_has ls 4 [(0, .ref h0), (1, .int v), (2, .int (nI i)), (3, .int (nI 4))] → W p l e (headSpec wsJ7_fill_53178 ({ frames := 0, cells := 0, slots := 0, locals := 0 })).room s m (([.ref h0, .int v] : List Value).toArray) below meth c H locs 0 0 (MQ below (va_Qv (fun (u : Unit) => True) (fun (u : Unit) (t : State) => va_P g.1 vwCl ([(h0, .inl (g.2.1.1, 4, .inl (fil f v 4)))]) t.heap ∧ va_D A ([(h0, .inl (g.2.1.1, 4, .inl (fil f v 4)))])) A) (([.ref h0, .int v] : List Value).toArray) s 0 0 A) (F0 m 5 ls []) := by
    intro n
    induction n with
    | zero => intro i _ hm; exact absurd hm (Nat.not_lt_zero _)
    | succ n ih =>
      intro i hi hm H locs hP hD hS ls hl
      refine lv_iload_n hx hb dJ7_fill_53178_5 rfl (lv_at hl 2 rfl) ?_
      refine lv_iload_n hx hb dJ7_fill_53178_6 rfl (lv_at hl 3 rfl) ?_
      refine lv_icmp_ge (tgt := 20) hx hb dJ7_fill_53178_7 (by decide) (fun c7 => ?_) (fun c7 => ?_)
      · have c7 := (cv_le_nn (by omega) (by omega)).mp c7
        have e4 : i = 4 := by omega
        subst e4
        refine W.widen (k := 0) (n := 0) (by decide) (by decide) ?_
        exact wr_vret (()) hx hb hr hlocks (trivial) (fun t ht => ⟨by rw [ht]; exact hP, hD⟩) hS dJ7_fill_53178_20
      · have c7 := (not_congr (cv_le_nn (by omega) (by omega))).mp c7
        refine lv_aload_n hx hb dJ7_fill_53178_10 rfl (lv_at hl 0 rfl) ?_
        refine lv_iload_n hx hb dJ7_fill_53178_11 rfl (lv_at hl 2 rfl) ?_
        refine lv_iload_n hx hb dJ7_fill_53178_12 rfl (lv_at hl 1 rfl) ?_
        refine an_iastD (f := (fil f v i)) hx hb hK hP hD hS 0 0 rfl rfl (by decide) (by omega) dJ7_fill_53178_13 (fun H locs hP hD hS => ?_)
        have hP : va_P g.1 vwCl [(h0, .inl (g.2.1.1, 4, .inl (upd (fil f v i) (i) v)))] H := hP
        have hD : va_D A [(h0, .inl (g.2.1.1, 4, .inl (upd (fil f v i) (i) v)))] := hD
        rw [fil_s] at hP hD
        refine lv_iinc (v := nI (i + 1)) (lv' := [(2, .int (nI (i + 1))), (0, .ref h0), (1, .int v), (3, .int (nI 4))]) hx hb dJ7_fill_53178_14 hl (k := 2) rfl (nI_add _ 1) (by decide) rfl (fun ls hl => ?_)
        refine lv_goto (tgt := 5) hx hb dJ7_fill_53178_17 (by decide) ?_
        exact ih (i + 1) (by omega) (by omega) _ _ hP hD hS ls (lv_sub hl [1, 2, 0, 3] rfl)
  exact lp 5 0 (by omega) (by omega) _ _ hP (by rw [fil_0]; exact hD) hS ls (lv_sub hl [2, 3, 1, 0] rfl)
theorem fl_X1_init_9 : Cond.fieldLink RX1 9 (TX1 0).1 (TX1 0).2.1 (TX1 0).2.2.1 ∈ wsX1_init := by decide +kernel
theorem iw_X1_init_X1 : ∀ w ∈ u_ws RX1 TX1 5, w ∈ wsX1_init := by decide +kernel
theorem fl_X1_init_15 : Cond.fieldLink RX1 15 (TX1 1).1 (TX1 1).2.1 (TX1 1).2.2.1 ∈ wsX1_init := by decide +kernel
theorem fl_X1_init_18 : Cond.fieldLink RX1 18 (TX1 2).1 (TX1 2).2.1 (TX1 2).2.2.1 ∈ wsX1_init := by decide +kernel
set_option maxHeartbeats 1000000 in
set_option maxRecDepth 100000 in
theorem c_X1_init (l : Launch) {g : GW} (h0 : Nat) (sz : Nat) : Met l yX1_init wsX1_init ({ frames := 1, cells := 3, slots := 80, locals := 12 }) (va_Pc ([.ref h0]) (cW g [(h0, .inr (1, [.null, .null, .null, .int (nI 0), .int (nI 0)]))] sz)) (va_Qv (fun (u : Nat → Nat) => True) (fun (u : Nat → Nat) (t : State) => va_P g.1 vwCl ([(h0, .inr (1, [.ref (u 0), .ref (u 1), .ref (u 2), .int (nI 0), .int (nI 0)])), (u 0, .inl (g.2.1.1, 40, .inl (fun _ => nI 0))), (u 1, .inl (g.2.1.1, 20, .inl (fun _ => nI 0))), (u 2, .inl (g.2.1.1, 20, .inl (fun _ => nI 0)))]) t.heap ∧ va_D (va_A [(h0, .inr (1, [.null, .null, .null, .int (nI 0), .int (nI 0)]))] sz) ([(h0, .inr (1, [.ref (u 0), .ref (u 1), .ref (u 2), .int (nI 0), .int (nI 0)])), (u 0, .inl (g.2.1.1, 40, .inl (fun _ => nI 0))), (u 1, .inl (g.2.1.1, 20, .inl (fun _ => nI 0))), (u 2, .inl (g.2.1.1, 20, .inl (fun _ => nI 0)))])) (va_A [(h0, .inr (1, [.null, .null, .null, .int (nI 0), .int (nI 0)]))] sz)) 3 80 (va_A [(h0, .inr (1, [.null, .null, .null, .int (nI 0), .int (nI 0)]))] sz) := by
  refine Met.ofW (cc := cX1_init) (maxL := 1) (ret := none) (by decide) rfl ?_
  intro p e s m args below meth c s₁ B hml hv
  obtain ⟨rfl, hsz, hP, hK, hN, hD0⟩ := hv
  have hx := B.exec
  have hb := B.bytes
  have hr := B.returns
  have hts := atoms_spec (ws := wsX1_init) B.pre
  have hown : s.vm.findClass RX1 = some m.cls := findClass_of_methodNamed B.named
  have hlocks := B.notSynchronized
  have hin : meth.name = "<init>" := (name_of_methodNamed B.named B.method).1
  subst hsz
  have hD := hD0.self (sz := s.heap.size)
  generalize hAe : va_A [(h0, .inr (1, [.null, .null, .null, .int (nI 0), .int (nI 0)]))] s.heap.size = A at hD ⊢
  have hA : ∀ q : Nat, s.heap.size ≤ q → A q := fun q h => by rw [← hAe]; exact Or.inr h
  have hS : va_S A s.heap s.heap [] := va_S.rf
  have hl := lv_entry ([.ref h0]) (n := 1) (Nat.le_of_ble_eq_true rfl)
  rw [lg_entry_eq]
  generalize (lg_sl ([.ref h0]) ++ List.replicate (1 - (lg_sl ([.ref h0])).length) Slot.unset).toArray = ls at hl ⊢
  have hl : lv_has ls 1 [(0, .ref h0)] := hl
  refine lv_aload_n hx hb dX1_init_0 rfl (lv_at hl 0 rfl) ?_
  refine W.objInit hx hb hown (hts (.methodLink RX1 3 objectInit) (by decide +kernel)) (hts (.instanceMethod objectInit) (by decide +kernel)) (hts (.code objectInit ⟨#[0xb1]⟩ 1 none) (by decide +kernel)) rfl (by rw [hml]; exact hl.1) rfl dX1_init_1 (Nat.le_of_ble_eq_true rfl) (Nat.le_of_ble_eq_true rfl) ?_
  refine W.eq (g2 := F0 m 4 ls []) rfl ?_
  refine lv_aload_n hx hb dX1_init_4 rfl (lv_at hl 0 rfl) ?_
  refine lv_bipush (v := nI 40) hx hb dX1_init_5 (by decide) ?_
  refine an_newa (atype := .int) (ty := .int) (cA := g.2.1.1) (N' := 40) (a0 := (40, .inl (fun _ => nI 0))) hx hb (hts (.arrayClass .int) (by decide +kernel)) rfl hK 0 rfl (fun _ h => h) hP hD hS hA (fun _ => rfl) (by decide) (by decide) (Nat.le_of_ble_eq_true rfl) (Nat.le_of_ble_eq_true rfl) dX1_init_7 (fun q7 H hP hD hS => ?_)
  have hP : va_P g.1 vwCl [(h0, .inr (1, [.null, .null, .null, .int (nI 0), .int (nI 0)])), (q7, .inl (g.2.1.1, 40, .inl (fun _ => nI 0)))] H := hP
  have hD : va_D A [(h0, .inr (1, [.null, .null, .null, .int (nI 0), .int (nI 0)])), (q7, .inl (g.2.1.1, 40, .inl (fun _ => nI 0)))] := hD
  refine W.widen (k := 1) (n := 40) (by decide) (by decide) ?_
  refine va_putF (D := g.1) (ci := 1) (v := .ref q7) (ty := (.array .int)) (C := RX1) (T := TX1) (N := 5) hx hb hts iw_X1_init_X1 tyX1 tyX1_ok nmX1 hown hK hP hD hS 0 rfl rfl 0 (by decide) (hts _ fl_X1_init_9) (fun _ h => h) rfl hin rfl (by decide +kernel) rfl rfl (Nat.le_of_ble_eq_true rfl) dX1_init_9 (fun H locs hP hD hS => ?_)
  have hP : va_P g.1 vwCl [(h0, .inr (1, [.ref q7, .null, .null, .int (nI 0), .int (nI 0)])), (q7, .inl (g.2.1.1, 40, .inl (fun _ => nI 0)))] H := hP
  have hD : va_D A [(h0, .inr (1, [.ref q7, .null, .null, .int (nI 0), .int (nI 0)])), (q7, .inl (g.2.1.1, 40, .inl (fun _ => nI 0)))] := hD
  refine lv_aload_n hx hb dX1_init_12 rfl (lv_at hl 0 rfl) ?_
  refine lv_bipush (v := nI 20) hx hb dX1_init_13 (by decide) ?_
  refine an_newa (atype := .int) (ty := .int) (cA := g.2.1.1) (N' := 20) (a0 := (20, .inl (fun _ => nI 0))) hx hb (hts (.arrayClass .int) (by decide +kernel)) rfl hK 0 rfl (fun _ h => h) hP hD hS hA (fun _ => rfl) (by decide) (by decide) (Nat.le_of_ble_eq_true rfl) (Nat.le_of_ble_eq_true rfl) dX1_init_15 (fun q15 H hP hD hS => ?_)
  have hP : va_P g.1 vwCl [(h0, .inr (1, [.ref q7, .null, .null, .int (nI 0), .int (nI 0)])), (q7, .inl (g.2.1.1, 40, .inl (fun _ => nI 0))), (q15, .inl (g.2.1.1, 20, .inl (fun _ => nI 0)))] H := hP
  have hD : va_D A [(h0, .inr (1, [.ref q7, .null, .null, .int (nI 0), .int (nI 0)])), (q7, .inl (g.2.1.1, 40, .inl (fun _ => nI 0))), (q15, .inl (g.2.1.1, 20, .inl (fun _ => nI 0)))] := hD
  refine W.widen (k := 2) (n := 60) (by decide) (by decide) ?_
  refine va_putF (D := g.1) (ci := 1) (v := .ref q15) (ty := (.array .int)) (C := RX1) (T := TX1) (N := 5) hx hb hts iw_X1_init_X1 tyX1 tyX1_ok nmX1 hown hK hP hD hS 0 rfl rfl 1 (by decide) (hts _ fl_X1_init_15) (fun _ h => h) rfl hin rfl (by decide +kernel) rfl rfl (Nat.le_of_ble_eq_true rfl) dX1_init_17 (fun H locs hP hD hS => ?_)
  have hP : va_P g.1 vwCl [(h0, .inr (1, [.ref q7, .ref q15, .null, .int (nI 0), .int (nI 0)])), (q7, .inl (g.2.1.1, 40, .inl (fun _ => nI 0))), (q15, .inl (g.2.1.1, 20, .inl (fun _ => nI 0)))] H := hP
  have hD : va_D A [(h0, .inr (1, [.ref q7, .ref q15, .null, .int (nI 0), .int (nI 0)])), (q7, .inl (g.2.1.1, 40, .inl (fun _ => nI 0))), (q15, .inl (g.2.1.1, 20, .inl (fun _ => nI 0)))] := hD
  refine lv_aload_n hx hb dX1_init_20 rfl (lv_at hl 0 rfl) ?_
  refine lv_bipush (v := nI 20) hx hb dX1_init_21 (by decide) ?_
  refine an_newa (atype := .int) (ty := .int) (cA := g.2.1.1) (N' := 20) (a0 := (20, .inl (fun _ => nI 0))) hx hb (hts (.arrayClass .int) (by decide +kernel)) rfl hK 0 rfl (fun _ h => h) hP hD hS hA (fun _ => rfl) (by decide) (by decide) (Nat.le_of_ble_eq_true rfl) (Nat.le_of_ble_eq_true rfl) dX1_init_23 (fun q23 H hP hD hS => ?_)
  have hP : va_P g.1 vwCl [(h0, .inr (1, [.ref q7, .ref q15, .null, .int (nI 0), .int (nI 0)])), (q7, .inl (g.2.1.1, 40, .inl (fun _ => nI 0))), (q15, .inl (g.2.1.1, 20, .inl (fun _ => nI 0))), (q23, .inl (g.2.1.1, 20, .inl (fun _ => nI 0)))] H := hP
  have hD : va_D A [(h0, .inr (1, [.ref q7, .ref q15, .null, .int (nI 0), .int (nI 0)])), (q7, .inl (g.2.1.1, 40, .inl (fun _ => nI 0))), (q15, .inl (g.2.1.1, 20, .inl (fun _ => nI 0))), (q23, .inl (g.2.1.1, 20, .inl (fun _ => nI 0)))] := hD
  refine W.widen (k := 3) (n := 80) (by decide) (by decide) ?_
  refine va_putF (D := g.1) (ci := 1) (v := .ref q23) (ty := (.array .int)) (C := RX1) (T := TX1) (N := 5) hx hb hts iw_X1_init_X1 tyX1 tyX1_ok nmX1 hown hK hP hD hS 0 rfl rfl 2 (by decide) (hts _ fl_X1_init_18) (fun _ h => h) rfl hin rfl (by decide +kernel) rfl rfl (Nat.le_of_ble_eq_true rfl) dX1_init_25 (fun H locs hP hD hS => ?_)
  have hP : va_P g.1 vwCl [(h0, .inr (1, [.ref q7, .ref q15, .ref q23, .int (nI 0), .int (nI 0)])), (q7, .inl (g.2.1.1, 40, .inl (fun _ => nI 0))), (q15, .inl (g.2.1.1, 20, .inl (fun _ => nI 0))), (q23, .inl (g.2.1.1, 20, .inl (fun _ => nI 0)))] H := hP
  have hD : va_D A [(h0, .inr (1, [.ref q7, .ref q15, .ref q23, .int (nI 0), .int (nI 0)])), (q7, .inl (g.2.1.1, 40, .inl (fun _ => nI 0))), (q15, .inl (g.2.1.1, 20, .inl (fun _ => nI 0))), (q23, .inl (g.2.1.1, 20, .inl (fun _ => nI 0)))] := hD
  refine W.widen (k := 3) (n := 80) (by decide) (by decide) ?_
  exact wr_vret (fun k => match k with | 0 => q7 | 1 => q15 | _ => q23) hx hb hr hlocks (trivial) (fun t ht => ⟨by rw [ht]; exact hP, hD⟩) hS dX1_init_28
theorem fl_X2_init_11 : Cond.fieldLink RX2 11 (TX2 3).1 (TX2 3).2.1 (TX2 3).2.2.1 ∈ wsX2_init := by decide +kernel
theorem iw_X2_init_X2 : ∀ w ∈ u_ws RX2 TX2 11, w ∈ wsX2_init := by decide +kernel
theorem fl_X2_init_15 : Cond.fieldLink RX2 15 (TX2 4).1 (TX2 4).2.1 (TX2 4).2.2.1 ∈ wsX2_init := by decide +kernel
theorem fl_X2_init_19 : Cond.fieldLink RX2 19 (TX2 5).1 (TX2 5).2.1 (TX2 5).2.2.1 ∈ wsX2_init := by decide +kernel
theorem fl_X2_init_22 : Cond.fieldLink RX2 22 (TX2 6).1 (TX2 6).2.1 (TX2 6).2.2.1 ∈ wsX2_init := by decide +kernel
theorem fl_X2_init_25 : Cond.fieldLink RX2 25 (TX2 7).1 (TX2 7).2.1 (TX2 7).2.2.1 ∈ wsX2_init := by decide +kernel
theorem fl_X2_init_28 : Cond.fieldLink RX2 28 (TX2 0).1 (TX2 0).2.1 (TX2 0).2.2.1 ∈ wsX2_init := by decide +kernel
theorem fl_X2_init_32 : Cond.fieldLink RX2 32 (TX2 1).1 (TX2 1).2.1 (TX2 1).2.2.1 ∈ wsX2_init := by decide +kernel
theorem fl_X2_init_36 : Cond.fieldLink RX2 36 (TX2 2).1 (TX2 2).2.1 (TX2 2).2.2.1 ∈ wsX2_init := by decide +kernel
set_option maxHeartbeats 1000000 in
set_option maxRecDepth 100000 in
theorem c_X2_init (l : Launch) {g : GW} (h0 a1 a2 a3 : Nat) (sz : Nat) : Met l yX2_init wsX2_init ({ frames := 1, cells := 5, slots := 394, locals := 12 }) (va_Pc ([.ref h0, .ref a1, .ref a2, .ref a3]) (cW g [(h0, .inr (2, [.null, .null, .null, .null, .null, .null, .null, .null, .int (nI 0), .int (nI 0), .int (nI 0)]))] sz)) (va_Qv (fun (u : Nat → Nat) => True) (fun (u : Nat → Nat) (t : State) => va_P g.1 vwCl ([(h0, .inr (2, [.ref a1, .ref a2, .ref a3, .ref (u 0), .ref (u 1), .ref (u 2), .ref (u 3), .ref (u 4), .int (nI 0), .int (nI 0), .int (nI 0)])), (u 0, .inl (g.2.1.1, 10, .inl (fun _ => nI 0))), (u 1, .inl (g.2.1.2.1, 4, .inr (.inl (fun _ => lN 0)))), (u 2, .inl (g.2.1.2.1, 4, .inr (.inl (fun _ => lN 0)))), (u 3, .inl (g.2.1.2.1, 188, .inr (.inl (fun _ => lN 0)))), (u 4, .inl (g.2.1.2.1, 188, .inr (.inl (fun _ => lN 0))))]) t.heap ∧ va_D (va_A [(h0, .inr (2, [.null, .null, .null, .null, .null, .null, .null, .null, .int (nI 0), .int (nI 0), .int (nI 0)]))] sz) ([(h0, .inr (2, [.ref a1, .ref a2, .ref a3, .ref (u 0), .ref (u 1), .ref (u 2), .ref (u 3), .ref (u 4), .int (nI 0), .int (nI 0), .int (nI 0)])), (u 0, .inl (g.2.1.1, 10, .inl (fun _ => nI 0))), (u 1, .inl (g.2.1.2.1, 4, .inr (.inl (fun _ => lN 0)))), (u 2, .inl (g.2.1.2.1, 4, .inr (.inl (fun _ => lN 0)))), (u 3, .inl (g.2.1.2.1, 188, .inr (.inl (fun _ => lN 0)))), (u 4, .inl (g.2.1.2.1, 188, .inr (.inl (fun _ => lN 0))))])) (va_A [(h0, .inr (2, [.null, .null, .null, .null, .null, .null, .null, .null, .int (nI 0), .int (nI 0), .int (nI 0)]))] sz)) 5 394 (va_A [(h0, .inr (2, [.null, .null, .null, .null, .null, .null, .null, .null, .int (nI 0), .int (nI 0), .int (nI 0)]))] sz) := by
  refine Met.ofW (cc := cX2_init) (maxL := 4) (ret := none) (by decide) rfl ?_
  intro p e s m args below meth c s₁ B hml hv
  obtain ⟨rfl, hsz, hP, hK, hN, hD0⟩ := hv
  have hx := B.exec
  have hb := B.bytes
  have hr := B.returns
  have hts := atoms_spec (ws := wsX2_init) B.pre
  have hown : s.vm.findClass RX2 = some m.cls := findClass_of_methodNamed B.named
  have hlocks := B.notSynchronized
  have hin : meth.name = "<init>" := (name_of_methodNamed B.named B.method).1
  subst hsz
  have hD := hD0.self (sz := s.heap.size)
  generalize hAe : va_A [(h0, .inr (2, [.null, .null, .null, .null, .null, .null, .null, .null, .int (nI 0), .int (nI 0), .int (nI 0)]))] s.heap.size = A at hD ⊢
  have hA : ∀ q : Nat, s.heap.size ≤ q → A q := fun q h => by rw [← hAe]; exact Or.inr h
  have hS : va_S A s.heap s.heap [] := va_S.rf
  have hl := lv_entry ([.ref h0, .ref a1, .ref a2, .ref a3]) (n := 4) (Nat.le_of_ble_eq_true rfl)
  rw [lg_entry_eq]
  generalize (lg_sl ([.ref h0, .ref a1, .ref a2, .ref a3]) ++ List.replicate (4 - (lg_sl ([.ref h0, .ref a1, .ref a2, .ref a3])).length) Slot.unset).toArray = ls at hl ⊢
  have hl : lv_has ls 4 [(0, .ref h0), (1, .ref a1), (2, .ref a2), (3, .ref a3)] := hl
  refine lv_aload_n hx hb dX2_init_0 rfl (lv_at hl 0 rfl) ?_
  refine W.objInit hx hb hown (hts (.methodLink RX2 5 objectInit) (by decide +kernel)) (hts (.instanceMethod objectInit) (by decide +kernel)) (hts (.code objectInit ⟨#[0xb1]⟩ 1 none) (by decide +kernel)) rfl (by rw [hml]; exact hl.1) rfl dX2_init_1 (Nat.le_of_ble_eq_true rfl) (Nat.le_of_ble_eq_true rfl) ?_
  refine W.eq (g2 := F0 m 4 ls []) rfl ?_
  refine lv_aload_n hx hb dX2_init_4 rfl (lv_at hl 0 rfl) ?_
  refine lv_bipush (v := nI 10) hx hb dX2_init_5 (by decide) ?_
  refine an_newa (atype := .int) (ty := .int) (cA := g.2.1.1) (N' := 10) (a0 := (10, .inl (fun _ => nI 0))) hx hb (hts (.arrayClass .int) (by decide +kernel)) rfl hK 0 rfl (fun _ h => h) hP hD hS hA (fun _ => rfl) (by decide) (by decide) (Nat.le_of_ble_eq_true rfl) (Nat.le_of_ble_eq_true rfl) dX2_init_7 (fun q7 H hP hD hS => ?_)
  have hP : va_P g.1 vwCl [(h0, .inr (2, [.null, .null, .null, .null, .null, .null, .null, .null, .int (nI 0), .int (nI 0), .int (nI 0)])), (q7, .inl (g.2.1.1, 10, .inl (fun _ => nI 0)))] H := hP
  have hD : va_D A [(h0, .inr (2, [.null, .null, .null, .null, .null, .null, .null, .null, .int (nI 0), .int (nI 0), .int (nI 0)])), (q7, .inl (g.2.1.1, 10, .inl (fun _ => nI 0)))] := hD
  refine W.widen (k := 1) (n := 10) (by decide) (by decide) ?_
  refine va_putF (D := g.1) (ci := 2) (v := .ref q7) (ty := (.array .int)) (C := RX2) (T := TX2) (N := 11) hx hb hts iw_X2_init_X2 tyX2 tyX2_ok nmX2 hown hK hP hD hS 0 rfl rfl 3 (by decide) (hts _ fl_X2_init_11) (fun _ h => h) rfl hin rfl (by decide +kernel) rfl rfl (Nat.le_of_ble_eq_true rfl) dX2_init_9 (fun H locs hP hD hS => ?_)
  have hP : va_P g.1 vwCl [(h0, .inr (2, [.null, .null, .null, .ref q7, .null, .null, .null, .null, .int (nI 0), .int (nI 0), .int (nI 0)])), (q7, .inl (g.2.1.1, 10, .inl (fun _ => nI 0)))] H := hP
  have hD : va_D A [(h0, .inr (2, [.null, .null, .null, .ref q7, .null, .null, .null, .null, .int (nI 0), .int (nI 0), .int (nI 0)])), (q7, .inl (g.2.1.1, 10, .inl (fun _ => nI 0)))] := hD
  refine lv_aload_n hx hb dX2_init_12 rfl (lv_at hl 0 rfl) ?_
  refine lv_iconst (v := nI 4) hx hb dX2_init_13 (by decide) ?_
  refine an_newa (atype := .long) (ty := .long) (cA := g.2.1.2.1) (N' := 4) (a0 := (4, .inr (.inl (fun _ => lN 0)))) hx hb (hts (.arrayClass .long) (by decide +kernel)) rfl hK 1 rfl (fun _ h => h) hP hD hS hA (fun _ => rfl) (by decide) (by decide) (Nat.le_of_ble_eq_true rfl) (Nat.le_of_ble_eq_true rfl) dX2_init_14 (fun q14 H hP hD hS => ?_)
  have hP : va_P g.1 vwCl [(h0, .inr (2, [.null, .null, .null, .ref q7, .null, .null, .null, .null, .int (nI 0), .int (nI 0), .int (nI 0)])), (q7, .inl (g.2.1.1, 10, .inl (fun _ => nI 0))), (q14, .inl (g.2.1.2.1, 4, .inr (.inl (fun _ => lN 0))))] H := hP
  have hD : va_D A [(h0, .inr (2, [.null, .null, .null, .ref q7, .null, .null, .null, .null, .int (nI 0), .int (nI 0), .int (nI 0)])), (q7, .inl (g.2.1.1, 10, .inl (fun _ => nI 0))), (q14, .inl (g.2.1.2.1, 4, .inr (.inl (fun _ => lN 0))))] := hD
  refine W.widen (k := 2) (n := 14) (by decide) (by decide) ?_
  refine va_putF (D := g.1) (ci := 2) (v := .ref q14) (ty := (.array .long)) (C := RX2) (T := TX2) (N := 11) hx hb hts iw_X2_init_X2 tyX2 tyX2_ok nmX2 hown hK hP hD hS 0 rfl rfl 4 (by decide) (hts _ fl_X2_init_15) (fun _ h => h) rfl hin rfl (by decide +kernel) rfl rfl (Nat.le_of_ble_eq_true rfl) dX2_init_16 (fun H locs hP hD hS => ?_)
  have hP : va_P g.1 vwCl [(h0, .inr (2, [.null, .null, .null, .ref q7, .ref q14, .null, .null, .null, .int (nI 0), .int (nI 0), .int (nI 0)])), (q7, .inl (g.2.1.1, 10, .inl (fun _ => nI 0))), (q14, .inl (g.2.1.2.1, 4, .inr (.inl (fun _ => lN 0))))] H := hP
  have hD : va_D A [(h0, .inr (2, [.null, .null, .null, .ref q7, .ref q14, .null, .null, .null, .int (nI 0), .int (nI 0), .int (nI 0)])), (q7, .inl (g.2.1.1, 10, .inl (fun _ => nI 0))), (q14, .inl (g.2.1.2.1, 4, .inr (.inl (fun _ => lN 0))))] := hD
  refine lv_aload_n hx hb dX2_init_19 rfl (lv_at hl 0 rfl) ?_
  refine lv_iconst (v := nI 4) hx hb dX2_init_20 (by decide) ?_
  refine an_newa (atype := .long) (ty := .long) (cA := g.2.1.2.1) (N' := 4) (a0 := (4, .inr (.inl (fun _ => lN 0)))) hx hb (hts (.arrayClass .long) (by decide +kernel)) rfl hK 1 rfl (fun _ h => h) hP hD hS hA (fun _ => rfl) (by decide) (by decide) (Nat.le_of_ble_eq_true rfl) (Nat.le_of_ble_eq_true rfl) dX2_init_21 (fun q21 H hP hD hS => ?_)
  have hP : va_P g.1 vwCl [(h0, .inr (2, [.null, .null, .null, .ref q7, .ref q14, .null, .null, .null, .int (nI 0), .int (nI 0), .int (nI 0)])), (q7, .inl (g.2.1.1, 10, .inl (fun _ => nI 0))), (q14, .inl (g.2.1.2.1, 4, .inr (.inl (fun _ => lN 0)))), (q21, .inl (g.2.1.2.1, 4, .inr (.inl (fun _ => lN 0))))] H := hP
  have hD : va_D A [(h0, .inr (2, [.null, .null, .null, .ref q7, .ref q14, .null, .null, .null, .int (nI 0), .int (nI 0), .int (nI 0)])), (q7, .inl (g.2.1.1, 10, .inl (fun _ => nI 0))), (q14, .inl (g.2.1.2.1, 4, .inr (.inl (fun _ => lN 0)))), (q21, .inl (g.2.1.2.1, 4, .inr (.inl (fun _ => lN 0))))] := hD
  refine W.widen (k := 3) (n := 18) (by decide) (by decide) ?_
  refine va_putF (D := g.1) (ci := 2) (v := .ref q21) (ty := (.array .long)) (C := RX2) (T := TX2) (N := 11) hx hb hts iw_X2_init_X2 tyX2 tyX2_ok nmX2 hown hK hP hD hS 0 rfl rfl 5 (by decide) (hts _ fl_X2_init_19) (fun _ h => h) rfl hin rfl (by decide +kernel) rfl rfl (Nat.le_of_ble_eq_true rfl) dX2_init_23 (fun H locs hP hD hS => ?_)
  have hP : va_P g.1 vwCl [(h0, .inr (2, [.null, .null, .null, .ref q7, .ref q14, .ref q21, .null, .null, .int (nI 0), .int (nI 0), .int (nI 0)])), (q7, .inl (g.2.1.1, 10, .inl (fun _ => nI 0))), (q14, .inl (g.2.1.2.1, 4, .inr (.inl (fun _ => lN 0)))), (q21, .inl (g.2.1.2.1, 4, .inr (.inl (fun _ => lN 0))))] H := hP
  have hD : va_D A [(h0, .inr (2, [.null, .null, .null, .ref q7, .ref q14, .ref q21, .null, .null, .int (nI 0), .int (nI 0), .int (nI 0)])), (q7, .inl (g.2.1.1, 10, .inl (fun _ => nI 0))), (q14, .inl (g.2.1.2.1, 4, .inr (.inl (fun _ => lN 0)))), (q21, .inl (g.2.1.2.1, 4, .inr (.inl (fun _ => lN 0))))] := hD
  refine lv_aload_n hx hb dX2_init_26 rfl (lv_at hl 0 rfl) ?_
  refine lv_sipush (v := nI 188) hx hb dX2_init_27 (by decide) ?_
  refine an_newa (atype := .long) (ty := .long) (cA := g.2.1.2.1) (N' := 188) (a0 := (188, .inr (.inl (fun _ => lN 0)))) hx hb (hts (.arrayClass .long) (by decide +kernel)) rfl hK 1 rfl (fun _ h => h) hP hD hS hA (fun _ => rfl) (by decide) (by decide) (Nat.le_of_ble_eq_true rfl) (Nat.le_of_ble_eq_true rfl) dX2_init_30 (fun q30 H hP hD hS => ?_)
  have hP : va_P g.1 vwCl [(h0, .inr (2, [.null, .null, .null, .ref q7, .ref q14, .ref q21, .null, .null, .int (nI 0), .int (nI 0), .int (nI 0)])), (q7, .inl (g.2.1.1, 10, .inl (fun _ => nI 0))), (q14, .inl (g.2.1.2.1, 4, .inr (.inl (fun _ => lN 0)))), (q21, .inl (g.2.1.2.1, 4, .inr (.inl (fun _ => lN 0)))), (q30, .inl (g.2.1.2.1, 188, .inr (.inl (fun _ => lN 0))))] H := hP
  have hD : va_D A [(h0, .inr (2, [.null, .null, .null, .ref q7, .ref q14, .ref q21, .null, .null, .int (nI 0), .int (nI 0), .int (nI 0)])), (q7, .inl (g.2.1.1, 10, .inl (fun _ => nI 0))), (q14, .inl (g.2.1.2.1, 4, .inr (.inl (fun _ => lN 0)))), (q21, .inl (g.2.1.2.1, 4, .inr (.inl (fun _ => lN 0)))), (q30, .inl (g.2.1.2.1, 188, .inr (.inl (fun _ => lN 0))))] := hD
  refine W.widen (k := 4) (n := 206) (by decide) (by decide) ?_
  refine va_putF (D := g.1) (ci := 2) (v := .ref q30) (ty := (.array .long)) (C := RX2) (T := TX2) (N := 11) hx hb hts iw_X2_init_X2 tyX2 tyX2_ok nmX2 hown hK hP hD hS 0 rfl rfl 6 (by decide) (hts _ fl_X2_init_22) (fun _ h => h) rfl hin rfl (by decide +kernel) rfl rfl (Nat.le_of_ble_eq_true rfl) dX2_init_32 (fun H locs hP hD hS => ?_)
  have hP : va_P g.1 vwCl [(h0, .inr (2, [.null, .null, .null, .ref q7, .ref q14, .ref q21, .ref q30, .null, .int (nI 0), .int (nI 0), .int (nI 0)])), (q7, .inl (g.2.1.1, 10, .inl (fun _ => nI 0))), (q14, .inl (g.2.1.2.1, 4, .inr (.inl (fun _ => lN 0)))), (q21, .inl (g.2.1.2.1, 4, .inr (.inl (fun _ => lN 0)))), (q30, .inl (g.2.1.2.1, 188, .inr (.inl (fun _ => lN 0))))] H := hP
  have hD : va_D A [(h0, .inr (2, [.null, .null, .null, .ref q7, .ref q14, .ref q21, .ref q30, .null, .int (nI 0), .int (nI 0), .int (nI 0)])), (q7, .inl (g.2.1.1, 10, .inl (fun _ => nI 0))), (q14, .inl (g.2.1.2.1, 4, .inr (.inl (fun _ => lN 0)))), (q21, .inl (g.2.1.2.1, 4, .inr (.inl (fun _ => lN 0)))), (q30, .inl (g.2.1.2.1, 188, .inr (.inl (fun _ => lN 0))))] := hD
  refine lv_aload_n hx hb dX2_init_35 rfl (lv_at hl 0 rfl) ?_
  refine lv_sipush (v := nI 188) hx hb dX2_init_36 (by decide) ?_
  refine an_newa (atype := .long) (ty := .long) (cA := g.2.1.2.1) (N' := 188) (a0 := (188, .inr (.inl (fun _ => lN 0)))) hx hb (hts (.arrayClass .long) (by decide +kernel)) rfl hK 1 rfl (fun _ h => h) hP hD hS hA (fun _ => rfl) (by decide) (by decide) (Nat.le_of_ble_eq_true rfl) (Nat.le_of_ble_eq_true rfl) dX2_init_39 (fun q39 H hP hD hS => ?_)
  have hP : va_P g.1 vwCl [(h0, .inr (2, [.null, .null, .null, .ref q7, .ref q14, .ref q21, .ref q30, .null, .int (nI 0), .int (nI 0), .int (nI 0)])), (q7, .inl (g.2.1.1, 10, .inl (fun _ => nI 0))), (q14, .inl (g.2.1.2.1, 4, .inr (.inl (fun _ => lN 0)))), (q21, .inl (g.2.1.2.1, 4, .inr (.inl (fun _ => lN 0)))), (q30, .inl (g.2.1.2.1, 188, .inr (.inl (fun _ => lN 0)))), (q39, .inl (g.2.1.2.1, 188, .inr (.inl (fun _ => lN 0))))] H := hP
  have hD : va_D A [(h0, .inr (2, [.null, .null, .null, .ref q7, .ref q14, .ref q21, .ref q30, .null, .int (nI 0), .int (nI 0), .int (nI 0)])), (q7, .inl (g.2.1.1, 10, .inl (fun _ => nI 0))), (q14, .inl (g.2.1.2.1, 4, .inr (.inl (fun _ => lN 0)))), (q21, .inl (g.2.1.2.1, 4, .inr (.inl (fun _ => lN 0)))), (q30, .inl (g.2.1.2.1, 188, .inr (.inl (fun _ => lN 0)))), (q39, .inl (g.2.1.2.1, 188, .inr (.inl (fun _ => lN 0))))] := hD
  refine W.widen (k := 5) (n := 394) (by decide) (by decide) ?_
  refine va_putF (D := g.1) (ci := 2) (v := .ref q39) (ty := (.array .long)) (C := RX2) (T := TX2) (N := 11) hx hb hts iw_X2_init_X2 tyX2 tyX2_ok nmX2 hown hK hP hD hS 0 rfl rfl 7 (by decide) (hts _ fl_X2_init_25) (fun _ h => h) rfl hin rfl (by decide +kernel) rfl rfl (Nat.le_of_ble_eq_true rfl) dX2_init_41 (fun H locs hP hD hS => ?_)
  have hP : va_P g.1 vwCl [(h0, .inr (2, [.null, .null, .null, .ref q7, .ref q14, .ref q21, .ref q30, .ref q39, .int (nI 0), .int (nI 0), .int (nI 0)])), (q7, .inl (g.2.1.1, 10, .inl (fun _ => nI 0))), (q14, .inl (g.2.1.2.1, 4, .inr (.inl (fun _ => lN 0)))), (q21, .inl (g.2.1.2.1, 4, .inr (.inl (fun _ => lN 0)))), (q30, .inl (g.2.1.2.1, 188, .inr (.inl (fun _ => lN 0)))), (q39, .inl (g.2.1.2.1, 188, .inr (.inl (fun _ => lN 0))))] H := hP
  have hD : va_D A [(h0, .inr (2, [.null, .null, .null, .ref q7, .ref q14, .ref q21, .ref q30, .ref q39, .int (nI 0), .int (nI 0), .int (nI 0)])), (q7, .inl (g.2.1.1, 10, .inl (fun _ => nI 0))), (q14, .inl (g.2.1.2.1, 4, .inr (.inl (fun _ => lN 0)))), (q21, .inl (g.2.1.2.1, 4, .inr (.inl (fun _ => lN 0)))), (q30, .inl (g.2.1.2.1, 188, .inr (.inl (fun _ => lN 0)))), (q39, .inl (g.2.1.2.1, 188, .inr (.inl (fun _ => lN 0))))] := hD
  refine lv_aload_n hx hb dX2_init_44 rfl (lv_at hl 0 rfl) ?_
  refine lv_aload_n hx hb dX2_init_45 rfl (lv_at hl 1 rfl) ?_
  refine va_putF (D := g.1) (ci := 2) (v := .ref a1) (ty := (.object "VerseYears$Draft")) (C := RX2) (T := TX2) (N := 11) hx hb hts iw_X2_init_X2 tyX2 tyX2_ok nmX2 hown hK hP hD hS 0 rfl rfl 0 (by decide) (hts _ fl_X2_init_28) (fun _ h => h) rfl hin rfl (by decide +kernel) rfl rfl (Nat.le_of_ble_eq_true rfl) dX2_init_46 (fun H locs hP hD hS => ?_)
  have hP : va_P g.1 vwCl [(h0, .inr (2, [.ref a1, .null, .null, .ref q7, .ref q14, .ref q21, .ref q30, .ref q39, .int (nI 0), .int (nI 0), .int (nI 0)])), (q7, .inl (g.2.1.1, 10, .inl (fun _ => nI 0))), (q14, .inl (g.2.1.2.1, 4, .inr (.inl (fun _ => lN 0)))), (q21, .inl (g.2.1.2.1, 4, .inr (.inl (fun _ => lN 0)))), (q30, .inl (g.2.1.2.1, 188, .inr (.inl (fun _ => lN 0)))), (q39, .inl (g.2.1.2.1, 188, .inr (.inl (fun _ => lN 0))))] H := hP
  have hD : va_D A [(h0, .inr (2, [.ref a1, .null, .null, .ref q7, .ref q14, .ref q21, .ref q30, .ref q39, .int (nI 0), .int (nI 0), .int (nI 0)])), (q7, .inl (g.2.1.1, 10, .inl (fun _ => nI 0))), (q14, .inl (g.2.1.2.1, 4, .inr (.inl (fun _ => lN 0)))), (q21, .inl (g.2.1.2.1, 4, .inr (.inl (fun _ => lN 0)))), (q30, .inl (g.2.1.2.1, 188, .inr (.inl (fun _ => lN 0)))), (q39, .inl (g.2.1.2.1, 188, .inr (.inl (fun _ => lN 0))))] := hD
  refine lv_aload_n hx hb dX2_init_49 rfl (lv_at hl 0 rfl) ?_
  refine lv_aload_n hx hb dX2_init_50 rfl (lv_at hl 2 rfl) ?_
  refine va_putF (D := g.1) (ci := 2) (v := .ref a2) (ty := (.object "VerseYears$Vocables")) (C := RX2) (T := TX2) (N := 11) hx hb hts iw_X2_init_X2 tyX2 tyX2_ok nmX2 hown hK hP hD hS 0 rfl rfl 1 (by decide) (hts _ fl_X2_init_32) (fun _ h => h) rfl hin rfl (by decide +kernel) rfl rfl (Nat.le_of_ble_eq_true rfl) dX2_init_51 (fun H locs hP hD hS => ?_)
  have hP : va_P g.1 vwCl [(h0, .inr (2, [.ref a1, .ref a2, .null, .ref q7, .ref q14, .ref q21, .ref q30, .ref q39, .int (nI 0), .int (nI 0), .int (nI 0)])), (q7, .inl (g.2.1.1, 10, .inl (fun _ => nI 0))), (q14, .inl (g.2.1.2.1, 4, .inr (.inl (fun _ => lN 0)))), (q21, .inl (g.2.1.2.1, 4, .inr (.inl (fun _ => lN 0)))), (q30, .inl (g.2.1.2.1, 188, .inr (.inl (fun _ => lN 0)))), (q39, .inl (g.2.1.2.1, 188, .inr (.inl (fun _ => lN 0))))] H := hP
  have hD : va_D A [(h0, .inr (2, [.ref a1, .ref a2, .null, .ref q7, .ref q14, .ref q21, .ref q30, .ref q39, .int (nI 0), .int (nI 0), .int (nI 0)])), (q7, .inl (g.2.1.1, 10, .inl (fun _ => nI 0))), (q14, .inl (g.2.1.2.1, 4, .inr (.inl (fun _ => lN 0)))), (q21, .inl (g.2.1.2.1, 4, .inr (.inl (fun _ => lN 0)))), (q30, .inl (g.2.1.2.1, 188, .inr (.inl (fun _ => lN 0)))), (q39, .inl (g.2.1.2.1, 188, .inr (.inl (fun _ => lN 0))))] := hD
  refine lv_aload_n hx hb dX2_init_54 rfl (lv_at hl 0 rfl) ?_
  refine lv_aload_n hx hb dX2_init_55 rfl (lv_at hl 3 rfl) ?_
  refine va_putF (D := g.1) (ci := 2) (v := .ref a3) (ty := (.object "VerseYears$Customs")) (C := RX2) (T := TX2) (N := 11) hx hb hts iw_X2_init_X2 tyX2 tyX2_ok nmX2 hown hK hP hD hS 0 rfl rfl 2 (by decide) (hts _ fl_X2_init_36) (fun _ h => h) rfl hin rfl (by decide +kernel) rfl rfl (Nat.le_of_ble_eq_true rfl) dX2_init_56 (fun H locs hP hD hS => ?_)
  have hP : va_P g.1 vwCl [(h0, .inr (2, [.ref a1, .ref a2, .ref a3, .ref q7, .ref q14, .ref q21, .ref q30, .ref q39, .int (nI 0), .int (nI 0), .int (nI 0)])), (q7, .inl (g.2.1.1, 10, .inl (fun _ => nI 0))), (q14, .inl (g.2.1.2.1, 4, .inr (.inl (fun _ => lN 0)))), (q21, .inl (g.2.1.2.1, 4, .inr (.inl (fun _ => lN 0)))), (q30, .inl (g.2.1.2.1, 188, .inr (.inl (fun _ => lN 0)))), (q39, .inl (g.2.1.2.1, 188, .inr (.inl (fun _ => lN 0))))] H := hP
  have hD : va_D A [(h0, .inr (2, [.ref a1, .ref a2, .ref a3, .ref q7, .ref q14, .ref q21, .ref q30, .ref q39, .int (nI 0), .int (nI 0), .int (nI 0)])), (q7, .inl (g.2.1.1, 10, .inl (fun _ => nI 0))), (q14, .inl (g.2.1.2.1, 4, .inr (.inl (fun _ => lN 0)))), (q21, .inl (g.2.1.2.1, 4, .inr (.inl (fun _ => lN 0)))), (q30, .inl (g.2.1.2.1, 188, .inr (.inl (fun _ => lN 0)))), (q39, .inl (g.2.1.2.1, 188, .inr (.inl (fun _ => lN 0))))] := hD
  refine W.widen (k := 5) (n := 394) (by decide) (by decide) ?_
  exact wr_vret (fun k => match k with | 0 => q7 | 1 => q14 | 2 => q21 | 3 => q30 | _ => q39) hx hb hr hlocks (trivial) (fun t ht => ⟨by rw [ht]; exact hP, hD⟩) hS dX2_init_59
theorem fl_X3_init_9 : Cond.fieldLink RX3 9 (TX3 2).1 (TX3 2).2.1 (TX3 2).2.2.1 ∈ wsX3_init := by decide +kernel
theorem iw_X3_init_X3 : ∀ w ∈ u_ws RX3 TX3 10, w ∈ wsX3_init := by decide +kernel
theorem fl_X3_init_15 : Cond.fieldLink RX3 15 (TX3 3).1 (TX3 3).2.1 (TX3 3).2.2.1 ∈ wsX3_init := by decide +kernel
theorem fl_X3_init_18 : Cond.fieldLink RX3 18 (TX3 4).1 (TX3 4).2.1 (TX3 4).2.2.1 ∈ wsX3_init := by decide +kernel
theorem fl_X3_init_21 : Cond.fieldLink RX3 21 (TX3 5).1 (TX3 5).2.1 (TX3 5).2.2.1 ∈ wsX3_init := by decide +kernel
theorem fl_X3_init_25 : Cond.fieldLink RX3 25 (TX3 6).1 (TX3 6).2.1 (TX3 6).2.2.1 ∈ wsX3_init := by decide +kernel
theorem fl_X3_init_28 : Cond.fieldLink RX3 28 (TX3 7).1 (TX3 7).2.1 (TX3 7).2.2.1 ∈ wsX3_init := by decide +kernel
theorem fl_X3_init_32 : Cond.fieldLink RX3 32 (TX3 0).1 (TX3 0).2.1 (TX3 0).2.2.1 ∈ wsX3_init := by decide +kernel
theorem fl_X3_init_36 : Cond.fieldLink RX3 36 (TX3 1).1 (TX3 1).2.1 (TX3 1).2.2.1 ∈ wsX3_init := by decide +kernel
set_option maxHeartbeats 1000000 in
set_option maxRecDepth 100000 in
theorem c_X3_init (l : Launch) {g : GW} (h0 a1 a2 : Nat) (sz : Nat) : Met l yX3_init wsX3_init ({ frames := 1, cells := 5, slots := 9069, locals := 12 }) (va_Pc ([.ref h0, .ref a1, .ref a2]) (cW g [(h0, .inr (3, [.null, .null, .null, .null, .null, .null, .null, .int (nI 0), .int (nI 0), .int (nI 0)]))] sz)) (va_Qv (fun (u : Nat → Nat) => True) (fun (u : Nat → Nat) (t : State) => va_P g.1 vwCl ([(h0, .inr (3, [.ref a1, .ref a2, .ref (u 0), .ref (u 1), .ref (u 2), .ref (u 3), .ref (u 4), .int (nI 1), .int (nI 0), .int (nI 0)])), (u 0, .inl (g.2.1.1, 10, .inl (fun _ => nI 0))), (u 1, .inl (g.2.1.1, 10, .inl (fun _ => nI 0))), (u 2, .inl (g.2.1.1, 10, .inl (fun _ => nI 0))), (u 3, .inl (g.2.1.2.1, 36, .inr (.inl (fun _ => lN 0)))), (u 4, .inl (g.2.1.2.1, 9003, .inr (.inl (fun _ => lN 0))))]) t.heap ∧ va_D (va_A [(h0, .inr (3, [.null, .null, .null, .null, .null, .null, .null, .int (nI 0), .int (nI 0), .int (nI 0)]))] sz) ([(h0, .inr (3, [.ref a1, .ref a2, .ref (u 0), .ref (u 1), .ref (u 2), .ref (u 3), .ref (u 4), .int (nI 1), .int (nI 0), .int (nI 0)])), (u 0, .inl (g.2.1.1, 10, .inl (fun _ => nI 0))), (u 1, .inl (g.2.1.1, 10, .inl (fun _ => nI 0))), (u 2, .inl (g.2.1.1, 10, .inl (fun _ => nI 0))), (u 3, .inl (g.2.1.2.1, 36, .inr (.inl (fun _ => lN 0)))), (u 4, .inl (g.2.1.2.1, 9003, .inr (.inl (fun _ => lN 0))))])) (va_A [(h0, .inr (3, [.null, .null, .null, .null, .null, .null, .null, .int (nI 0), .int (nI 0), .int (nI 0)]))] sz)) 5 9069 (va_A [(h0, .inr (3, [.null, .null, .null, .null, .null, .null, .null, .int (nI 0), .int (nI 0), .int (nI 0)]))] sz) := by
  refine Met.ofW (cc := cX3_init) (maxL := 3) (ret := none) (by decide) rfl ?_
  intro p e s m args below meth c s₁ B hml hv
  obtain ⟨rfl, hsz, hP, hK, hN, hD0⟩ := hv
  have hx := B.exec
  have hb := B.bytes
  have hr := B.returns
  have hts := atoms_spec (ws := wsX3_init) B.pre
  have hown : s.vm.findClass RX3 = some m.cls := findClass_of_methodNamed B.named
  have hlocks := B.notSynchronized
  have hin : meth.name = "<init>" := (name_of_methodNamed B.named B.method).1
  subst hsz
  have hD := hD0.self (sz := s.heap.size)
  generalize hAe : va_A [(h0, .inr (3, [.null, .null, .null, .null, .null, .null, .null, .int (nI 0), .int (nI 0), .int (nI 0)]))] s.heap.size = A at hD ⊢
  have hA : ∀ q : Nat, s.heap.size ≤ q → A q := fun q h => by rw [← hAe]; exact Or.inr h
  have hS : va_S A s.heap s.heap [] := va_S.rf
  have hl := lv_entry ([.ref h0, .ref a1, .ref a2]) (n := 3) (Nat.le_of_ble_eq_true rfl)
  rw [lg_entry_eq]
  generalize (lg_sl ([.ref h0, .ref a1, .ref a2]) ++ List.replicate (3 - (lg_sl ([.ref h0, .ref a1, .ref a2])).length) Slot.unset).toArray = ls at hl ⊢
  have hl : lv_has ls 3 [(0, .ref h0), (1, .ref a1), (2, .ref a2)] := hl
  refine lv_aload_n hx hb dX3_init_0 rfl (lv_at hl 0 rfl) ?_
  refine W.objInit hx hb hown (hts (.methodLink RX3 3 objectInit) (by decide +kernel)) (hts (.instanceMethod objectInit) (by decide +kernel)) (hts (.code objectInit ⟨#[0xb1]⟩ 1 none) (by decide +kernel)) rfl (by rw [hml]; exact hl.1) rfl dX3_init_1 (Nat.le_of_ble_eq_true rfl) (Nat.le_of_ble_eq_true rfl) ?_
  refine W.eq (g2 := F0 m 4 ls []) rfl ?_
  refine lv_aload_n hx hb dX3_init_4 rfl (lv_at hl 0 rfl) ?_
  refine lv_bipush (v := nI 10) hx hb dX3_init_5 (by decide) ?_
  refine an_newa (atype := .int) (ty := .int) (cA := g.2.1.1) (N' := 10) (a0 := (10, .inl (fun _ => nI 0))) hx hb (hts (.arrayClass .int) (by decide +kernel)) rfl hK 0 rfl (fun _ h => h) hP hD hS hA (fun _ => rfl) (by decide) (by decide) (Nat.le_of_ble_eq_true rfl) (Nat.le_of_ble_eq_true rfl) dX3_init_7 (fun q7 H hP hD hS => ?_)
  have hP : va_P g.1 vwCl [(h0, .inr (3, [.null, .null, .null, .null, .null, .null, .null, .int (nI 0), .int (nI 0), .int (nI 0)])), (q7, .inl (g.2.1.1, 10, .inl (fun _ => nI 0)))] H := hP
  have hD : va_D A [(h0, .inr (3, [.null, .null, .null, .null, .null, .null, .null, .int (nI 0), .int (nI 0), .int (nI 0)])), (q7, .inl (g.2.1.1, 10, .inl (fun _ => nI 0)))] := hD
  refine W.widen (k := 1) (n := 10) (by decide) (by decide) ?_
  refine va_putF (D := g.1) (ci := 3) (v := .ref q7) (ty := (.array .int)) (C := RX3) (T := TX3) (N := 10) hx hb hts iw_X3_init_X3 tyX3 tyX3_ok nmX3 hown hK hP hD hS 0 rfl rfl 2 (by decide) (hts _ fl_X3_init_9) (fun _ h => h) rfl hin rfl (by decide +kernel) rfl rfl (Nat.le_of_ble_eq_true rfl) dX3_init_9 (fun H locs hP hD hS => ?_)
  have hP : va_P g.1 vwCl [(h0, .inr (3, [.null, .null, .ref q7, .null, .null, .null, .null, .int (nI 0), .int (nI 0), .int (nI 0)])), (q7, .inl (g.2.1.1, 10, .inl (fun _ => nI 0)))] H := hP
  have hD : va_D A [(h0, .inr (3, [.null, .null, .ref q7, .null, .null, .null, .null, .int (nI 0), .int (nI 0), .int (nI 0)])), (q7, .inl (g.2.1.1, 10, .inl (fun _ => nI 0)))] := hD
  refine lv_aload_n hx hb dX3_init_12 rfl (lv_at hl 0 rfl) ?_
  refine lv_bipush (v := nI 10) hx hb dX3_init_13 (by decide) ?_
  refine an_newa (atype := .int) (ty := .int) (cA := g.2.1.1) (N' := 10) (a0 := (10, .inl (fun _ => nI 0))) hx hb (hts (.arrayClass .int) (by decide +kernel)) rfl hK 0 rfl (fun _ h => h) hP hD hS hA (fun _ => rfl) (by decide) (by decide) (Nat.le_of_ble_eq_true rfl) (Nat.le_of_ble_eq_true rfl) dX3_init_15 (fun q15 H hP hD hS => ?_)
  have hP : va_P g.1 vwCl [(h0, .inr (3, [.null, .null, .ref q7, .null, .null, .null, .null, .int (nI 0), .int (nI 0), .int (nI 0)])), (q7, .inl (g.2.1.1, 10, .inl (fun _ => nI 0))), (q15, .inl (g.2.1.1, 10, .inl (fun _ => nI 0)))] H := hP
  have hD : va_D A [(h0, .inr (3, [.null, .null, .ref q7, .null, .null, .null, .null, .int (nI 0), .int (nI 0), .int (nI 0)])), (q7, .inl (g.2.1.1, 10, .inl (fun _ => nI 0))), (q15, .inl (g.2.1.1, 10, .inl (fun _ => nI 0)))] := hD
  refine W.widen (k := 2) (n := 20) (by decide) (by decide) ?_
  refine va_putF (D := g.1) (ci := 3) (v := .ref q15) (ty := (.array .int)) (C := RX3) (T := TX3) (N := 10) hx hb hts iw_X3_init_X3 tyX3 tyX3_ok nmX3 hown hK hP hD hS 0 rfl rfl 3 (by decide) (hts _ fl_X3_init_15) (fun _ h => h) rfl hin rfl (by decide +kernel) rfl rfl (Nat.le_of_ble_eq_true rfl) dX3_init_17 (fun H locs hP hD hS => ?_)
  have hP : va_P g.1 vwCl [(h0, .inr (3, [.null, .null, .ref q7, .ref q15, .null, .null, .null, .int (nI 0), .int (nI 0), .int (nI 0)])), (q7, .inl (g.2.1.1, 10, .inl (fun _ => nI 0))), (q15, .inl (g.2.1.1, 10, .inl (fun _ => nI 0)))] H := hP
  have hD : va_D A [(h0, .inr (3, [.null, .null, .ref q7, .ref q15, .null, .null, .null, .int (nI 0), .int (nI 0), .int (nI 0)])), (q7, .inl (g.2.1.1, 10, .inl (fun _ => nI 0))), (q15, .inl (g.2.1.1, 10, .inl (fun _ => nI 0)))] := hD
  refine lv_aload_n hx hb dX3_init_20 rfl (lv_at hl 0 rfl) ?_
  refine lv_bipush (v := nI 10) hx hb dX3_init_21 (by decide) ?_
  refine an_newa (atype := .int) (ty := .int) (cA := g.2.1.1) (N' := 10) (a0 := (10, .inl (fun _ => nI 0))) hx hb (hts (.arrayClass .int) (by decide +kernel)) rfl hK 0 rfl (fun _ h => h) hP hD hS hA (fun _ => rfl) (by decide) (by decide) (Nat.le_of_ble_eq_true rfl) (Nat.le_of_ble_eq_true rfl) dX3_init_23 (fun q23 H hP hD hS => ?_)
  have hP : va_P g.1 vwCl [(h0, .inr (3, [.null, .null, .ref q7, .ref q15, .null, .null, .null, .int (nI 0), .int (nI 0), .int (nI 0)])), (q7, .inl (g.2.1.1, 10, .inl (fun _ => nI 0))), (q15, .inl (g.2.1.1, 10, .inl (fun _ => nI 0))), (q23, .inl (g.2.1.1, 10, .inl (fun _ => nI 0)))] H := hP
  have hD : va_D A [(h0, .inr (3, [.null, .null, .ref q7, .ref q15, .null, .null, .null, .int (nI 0), .int (nI 0), .int (nI 0)])), (q7, .inl (g.2.1.1, 10, .inl (fun _ => nI 0))), (q15, .inl (g.2.1.1, 10, .inl (fun _ => nI 0))), (q23, .inl (g.2.1.1, 10, .inl (fun _ => nI 0)))] := hD
  refine W.widen (k := 3) (n := 30) (by decide) (by decide) ?_
  refine va_putF (D := g.1) (ci := 3) (v := .ref q23) (ty := (.array .int)) (C := RX3) (T := TX3) (N := 10) hx hb hts iw_X3_init_X3 tyX3 tyX3_ok nmX3 hown hK hP hD hS 0 rfl rfl 4 (by decide) (hts _ fl_X3_init_18) (fun _ h => h) rfl hin rfl (by decide +kernel) rfl rfl (Nat.le_of_ble_eq_true rfl) dX3_init_25 (fun H locs hP hD hS => ?_)
  have hP : va_P g.1 vwCl [(h0, .inr (3, [.null, .null, .ref q7, .ref q15, .ref q23, .null, .null, .int (nI 0), .int (nI 0), .int (nI 0)])), (q7, .inl (g.2.1.1, 10, .inl (fun _ => nI 0))), (q15, .inl (g.2.1.1, 10, .inl (fun _ => nI 0))), (q23, .inl (g.2.1.1, 10, .inl (fun _ => nI 0)))] H := hP
  have hD : va_D A [(h0, .inr (3, [.null, .null, .ref q7, .ref q15, .ref q23, .null, .null, .int (nI 0), .int (nI 0), .int (nI 0)])), (q7, .inl (g.2.1.1, 10, .inl (fun _ => nI 0))), (q15, .inl (g.2.1.1, 10, .inl (fun _ => nI 0))), (q23, .inl (g.2.1.1, 10, .inl (fun _ => nI 0)))] := hD
  refine lv_aload_n hx hb dX3_init_28 rfl (lv_at hl 0 rfl) ?_
  refine lv_bipush (v := nI 36) hx hb dX3_init_29 (by decide) ?_
  refine an_newa (atype := .long) (ty := .long) (cA := g.2.1.2.1) (N' := 36) (a0 := (36, .inr (.inl (fun _ => lN 0)))) hx hb (hts (.arrayClass .long) (by decide +kernel)) rfl hK 1 rfl (fun _ h => h) hP hD hS hA (fun _ => rfl) (by decide) (by decide) (Nat.le_of_ble_eq_true rfl) (Nat.le_of_ble_eq_true rfl) dX3_init_31 (fun q31 H hP hD hS => ?_)
  have hP : va_P g.1 vwCl [(h0, .inr (3, [.null, .null, .ref q7, .ref q15, .ref q23, .null, .null, .int (nI 0), .int (nI 0), .int (nI 0)])), (q7, .inl (g.2.1.1, 10, .inl (fun _ => nI 0))), (q15, .inl (g.2.1.1, 10, .inl (fun _ => nI 0))), (q23, .inl (g.2.1.1, 10, .inl (fun _ => nI 0))), (q31, .inl (g.2.1.2.1, 36, .inr (.inl (fun _ => lN 0))))] H := hP
  have hD : va_D A [(h0, .inr (3, [.null, .null, .ref q7, .ref q15, .ref q23, .null, .null, .int (nI 0), .int (nI 0), .int (nI 0)])), (q7, .inl (g.2.1.1, 10, .inl (fun _ => nI 0))), (q15, .inl (g.2.1.1, 10, .inl (fun _ => nI 0))), (q23, .inl (g.2.1.1, 10, .inl (fun _ => nI 0))), (q31, .inl (g.2.1.2.1, 36, .inr (.inl (fun _ => lN 0))))] := hD
  refine W.widen (k := 4) (n := 66) (by decide) (by decide) ?_
  refine va_putF (D := g.1) (ci := 3) (v := .ref q31) (ty := (.array .long)) (C := RX3) (T := TX3) (N := 10) hx hb hts iw_X3_init_X3 tyX3 tyX3_ok nmX3 hown hK hP hD hS 0 rfl rfl 5 (by decide) (hts _ fl_X3_init_21) (fun _ h => h) rfl hin rfl (by decide +kernel) rfl rfl (Nat.le_of_ble_eq_true rfl) dX3_init_33 (fun H locs hP hD hS => ?_)
  have hP : va_P g.1 vwCl [(h0, .inr (3, [.null, .null, .ref q7, .ref q15, .ref q23, .ref q31, .null, .int (nI 0), .int (nI 0), .int (nI 0)])), (q7, .inl (g.2.1.1, 10, .inl (fun _ => nI 0))), (q15, .inl (g.2.1.1, 10, .inl (fun _ => nI 0))), (q23, .inl (g.2.1.1, 10, .inl (fun _ => nI 0))), (q31, .inl (g.2.1.2.1, 36, .inr (.inl (fun _ => lN 0))))] H := hP
  have hD : va_D A [(h0, .inr (3, [.null, .null, .ref q7, .ref q15, .ref q23, .ref q31, .null, .int (nI 0), .int (nI 0), .int (nI 0)])), (q7, .inl (g.2.1.1, 10, .inl (fun _ => nI 0))), (q15, .inl (g.2.1.1, 10, .inl (fun _ => nI 0))), (q23, .inl (g.2.1.1, 10, .inl (fun _ => nI 0))), (q31, .inl (g.2.1.2.1, 36, .inr (.inl (fun _ => lN 0))))] := hD
  refine lv_aload_n hx hb dX3_init_36 rfl (lv_at hl 0 rfl) ?_
  refine lv_sipush (v := nI 9003) hx hb dX3_init_37 (by decide) ?_
  refine an_newa (atype := .long) (ty := .long) (cA := g.2.1.2.1) (N' := 9003) (a0 := (9003, .inr (.inl (fun _ => lN 0)))) hx hb (hts (.arrayClass .long) (by decide +kernel)) rfl hK 1 rfl (fun _ h => h) hP hD hS hA (fun _ => rfl) (by decide) (by decide) (Nat.le_of_ble_eq_true rfl) (Nat.le_of_ble_eq_true rfl) dX3_init_40 (fun q40 H hP hD hS => ?_)
  have hP : va_P g.1 vwCl [(h0, .inr (3, [.null, .null, .ref q7, .ref q15, .ref q23, .ref q31, .null, .int (nI 0), .int (nI 0), .int (nI 0)])), (q7, .inl (g.2.1.1, 10, .inl (fun _ => nI 0))), (q15, .inl (g.2.1.1, 10, .inl (fun _ => nI 0))), (q23, .inl (g.2.1.1, 10, .inl (fun _ => nI 0))), (q31, .inl (g.2.1.2.1, 36, .inr (.inl (fun _ => lN 0)))), (q40, .inl (g.2.1.2.1, 9003, .inr (.inl (fun _ => lN 0))))] H := hP
  have hD : va_D A [(h0, .inr (3, [.null, .null, .ref q7, .ref q15, .ref q23, .ref q31, .null, .int (nI 0), .int (nI 0), .int (nI 0)])), (q7, .inl (g.2.1.1, 10, .inl (fun _ => nI 0))), (q15, .inl (g.2.1.1, 10, .inl (fun _ => nI 0))), (q23, .inl (g.2.1.1, 10, .inl (fun _ => nI 0))), (q31, .inl (g.2.1.2.1, 36, .inr (.inl (fun _ => lN 0)))), (q40, .inl (g.2.1.2.1, 9003, .inr (.inl (fun _ => lN 0))))] := hD
  refine W.widen (k := 5) (n := 9069) (by decide) (by decide) ?_
  refine va_putF (D := g.1) (ci := 3) (v := .ref q40) (ty := (.array .long)) (C := RX3) (T := TX3) (N := 10) hx hb hts iw_X3_init_X3 tyX3 tyX3_ok nmX3 hown hK hP hD hS 0 rfl rfl 6 (by decide) (hts _ fl_X3_init_25) (fun _ h => h) rfl hin rfl (by decide +kernel) rfl rfl (Nat.le_of_ble_eq_true rfl) dX3_init_42 (fun H locs hP hD hS => ?_)
  have hP : va_P g.1 vwCl [(h0, .inr (3, [.null, .null, .ref q7, .ref q15, .ref q23, .ref q31, .ref q40, .int (nI 0), .int (nI 0), .int (nI 0)])), (q7, .inl (g.2.1.1, 10, .inl (fun _ => nI 0))), (q15, .inl (g.2.1.1, 10, .inl (fun _ => nI 0))), (q23, .inl (g.2.1.1, 10, .inl (fun _ => nI 0))), (q31, .inl (g.2.1.2.1, 36, .inr (.inl (fun _ => lN 0)))), (q40, .inl (g.2.1.2.1, 9003, .inr (.inl (fun _ => lN 0))))] H := hP
  have hD : va_D A [(h0, .inr (3, [.null, .null, .ref q7, .ref q15, .ref q23, .ref q31, .ref q40, .int (nI 0), .int (nI 0), .int (nI 0)])), (q7, .inl (g.2.1.1, 10, .inl (fun _ => nI 0))), (q15, .inl (g.2.1.1, 10, .inl (fun _ => nI 0))), (q23, .inl (g.2.1.1, 10, .inl (fun _ => nI 0))), (q31, .inl (g.2.1.2.1, 36, .inr (.inl (fun _ => lN 0)))), (q40, .inl (g.2.1.2.1, 9003, .inr (.inl (fun _ => lN 0))))] := hD
  refine lv_aload_n hx hb dX3_init_45 rfl (lv_at hl 0 rfl) ?_
  refine lv_iconst (v := nI 1) hx hb dX3_init_46 (by decide) ?_
  refine va_put (D := g.1) (ci := 3) (v := .int (nI 1)) (ty := .boolean) (C := RX3) (T := TX3) (N := 10) hx hb hts iw_X3_init_X3 tyX3 tyX3_ok nmX3 hown hK hP hD hS 0 rfl rfl 7 (by decide) (hts _ fl_X3_init_28) (fun _ h => h) rfl (by decide +kernel) rfl rfl (Nat.le_of_ble_eq_true rfl) dX3_init_47 (fun H locs hP hD hS => ?_)
  have hP : va_P g.1 vwCl [(h0, .inr (3, [.null, .null, .ref q7, .ref q15, .ref q23, .ref q31, .ref q40, .int (nI 1), .int (nI 0), .int (nI 0)])), (q7, .inl (g.2.1.1, 10, .inl (fun _ => nI 0))), (q15, .inl (g.2.1.1, 10, .inl (fun _ => nI 0))), (q23, .inl (g.2.1.1, 10, .inl (fun _ => nI 0))), (q31, .inl (g.2.1.2.1, 36, .inr (.inl (fun _ => lN 0)))), (q40, .inl (g.2.1.2.1, 9003, .inr (.inl (fun _ => lN 0))))] H := hP
  have hD : va_D A [(h0, .inr (3, [.null, .null, .ref q7, .ref q15, .ref q23, .ref q31, .ref q40, .int (nI 1), .int (nI 0), .int (nI 0)])), (q7, .inl (g.2.1.1, 10, .inl (fun _ => nI 0))), (q15, .inl (g.2.1.1, 10, .inl (fun _ => nI 0))), (q23, .inl (g.2.1.1, 10, .inl (fun _ => nI 0))), (q31, .inl (g.2.1.2.1, 36, .inr (.inl (fun _ => lN 0)))), (q40, .inl (g.2.1.2.1, 9003, .inr (.inl (fun _ => lN 0))))] := hD
  refine lv_aload_n hx hb dX3_init_50 rfl (lv_at hl 0 rfl) ?_
  refine lv_aload_n hx hb dX3_init_51 rfl (lv_at hl 1 rfl) ?_
  refine va_putF (D := g.1) (ci := 3) (v := .ref a1) (ty := (.object "VerseYears$Vocables")) (C := RX3) (T := TX3) (N := 10) hx hb hts iw_X3_init_X3 tyX3 tyX3_ok nmX3 hown hK hP hD hS 0 rfl rfl 0 (by decide) (hts _ fl_X3_init_32) (fun _ h => h) rfl hin rfl (by decide +kernel) rfl rfl (Nat.le_of_ble_eq_true rfl) dX3_init_52 (fun H locs hP hD hS => ?_)
  have hP : va_P g.1 vwCl [(h0, .inr (3, [.ref a1, .null, .ref q7, .ref q15, .ref q23, .ref q31, .ref q40, .int (nI 1), .int (nI 0), .int (nI 0)])), (q7, .inl (g.2.1.1, 10, .inl (fun _ => nI 0))), (q15, .inl (g.2.1.1, 10, .inl (fun _ => nI 0))), (q23, .inl (g.2.1.1, 10, .inl (fun _ => nI 0))), (q31, .inl (g.2.1.2.1, 36, .inr (.inl (fun _ => lN 0)))), (q40, .inl (g.2.1.2.1, 9003, .inr (.inl (fun _ => lN 0))))] H := hP
  have hD : va_D A [(h0, .inr (3, [.ref a1, .null, .ref q7, .ref q15, .ref q23, .ref q31, .ref q40, .int (nI 1), .int (nI 0), .int (nI 0)])), (q7, .inl (g.2.1.1, 10, .inl (fun _ => nI 0))), (q15, .inl (g.2.1.1, 10, .inl (fun _ => nI 0))), (q23, .inl (g.2.1.1, 10, .inl (fun _ => nI 0))), (q31, .inl (g.2.1.2.1, 36, .inr (.inl (fun _ => lN 0)))), (q40, .inl (g.2.1.2.1, 9003, .inr (.inl (fun _ => lN 0))))] := hD
  refine lv_aload_n hx hb dX3_init_55 rfl (lv_at hl 0 rfl) ?_
  refine lv_aload_n hx hb dX3_init_56 rfl (lv_at hl 2 rfl) ?_
  refine va_putF (D := g.1) (ci := 3) (v := .ref a2) (ty := (.object "VerseYears$Customs")) (C := RX3) (T := TX3) (N := 10) hx hb hts iw_X3_init_X3 tyX3 tyX3_ok nmX3 hown hK hP hD hS 0 rfl rfl 1 (by decide) (hts _ fl_X3_init_36) (fun _ h => h) rfl hin rfl (by decide +kernel) rfl rfl (Nat.le_of_ble_eq_true rfl) dX3_init_57 (fun H locs hP hD hS => ?_)
  have hP : va_P g.1 vwCl [(h0, .inr (3, [.ref a1, .ref a2, .ref q7, .ref q15, .ref q23, .ref q31, .ref q40, .int (nI 1), .int (nI 0), .int (nI 0)])), (q7, .inl (g.2.1.1, 10, .inl (fun _ => nI 0))), (q15, .inl (g.2.1.1, 10, .inl (fun _ => nI 0))), (q23, .inl (g.2.1.1, 10, .inl (fun _ => nI 0))), (q31, .inl (g.2.1.2.1, 36, .inr (.inl (fun _ => lN 0)))), (q40, .inl (g.2.1.2.1, 9003, .inr (.inl (fun _ => lN 0))))] H := hP
  have hD : va_D A [(h0, .inr (3, [.ref a1, .ref a2, .ref q7, .ref q15, .ref q23, .ref q31, .ref q40, .int (nI 1), .int (nI 0), .int (nI 0)])), (q7, .inl (g.2.1.1, 10, .inl (fun _ => nI 0))), (q15, .inl (g.2.1.1, 10, .inl (fun _ => nI 0))), (q23, .inl (g.2.1.1, 10, .inl (fun _ => nI 0))), (q31, .inl (g.2.1.2.1, 36, .inr (.inl (fun _ => lN 0)))), (q40, .inl (g.2.1.2.1, 9003, .inr (.inl (fun _ => lN 0))))] := hD
  refine W.widen (k := 5) (n := 9069) (by decide) (by decide) ?_
  exact wr_vret (fun k => match k with | 0 => q7 | 1 => q15 | 2 => q23 | 3 => q31 | _ => q40) hx hb hr hlocks (trivial) (fun t ht => ⟨by rw [ht]; exact hP, hD⟩) hS dX3_init_60
theorem fl_X4_init_9 : Cond.fieldLink RX4 9 (TX4 0).1 (TX4 0).2.1 (TX4 0).2.2.1 ∈ wsX4_init := by decide +kernel
theorem iw_X4_init_X4 : ∀ w ∈ u_ws RX4 TX4 6, w ∈ wsX4_init := by decide +kernel
theorem fl_X4_init_15 : Cond.fieldLink RX4 15 (TX4 1).1 (TX4 1).2.1 (TX4 1).2.2.1 ∈ wsX4_init := by decide +kernel
theorem fl_X4_init_18 : Cond.fieldLink RX4 18 (TX4 2).1 (TX4 2).2.1 (TX4 2).2.2.1 ∈ wsX4_init := by decide +kernel
theorem fl_X4_init_21 : Cond.fieldLink RX4 21 (TX4 3).1 (TX4 3).2.1 (TX4 3).2.2.1 ∈ wsX4_init := by decide +kernel
theorem fl_X4_init_24 : Cond.fieldLink RX4 24 (TX4 4).1 (TX4 4).2.1 (TX4 4).2.2.1 ∈ wsX4_init := by decide +kernel
set_option maxHeartbeats 1000000 in
set_option maxRecDepth 100000 in
theorem c_X4_init (l : Launch) {g : GW} (h0 : Nat) (sz : Nat) : Met l yX4_init wsX4_init ({ frames := 1, cells := 5, slots := 114, locals := 40 }) (va_Pc ([.ref h0]) (cW g [(h0, .inr (4, [.null, .null, .null, .null, .null, .int (nI 0)]))] sz)) (va_Qv (fun (u : Nat → Nat) => True) (fun (u : Nat → Nat) (t : State) => va_P g.1 vwCl ([(h0, .inr (4, [.ref (u 0), .ref (u 1), .ref (u 2), .ref (u 3), .ref (u 4), .int (nI 0)])), (u 0, .inl (g.2.1.1, 80, .inl (fun _ => nI 0))), (u 1, .inl (g.2.1.1, 10, .inl (fun _ => nI 0))), (u 2, .inl (g.2.1.1, 10, .inl (fun _ => nI 0))), (u 3, .inl (g.2.1.1, 10, .inl (fun _ => nI 0))), (u 4, .inl (g.2.1.1, 4, .inl (fil (fun _ => nI 0) (nI 7) 4)))]) t.heap ∧ va_D (va_A [(h0, .inr (4, [.null, .null, .null, .null, .null, .int (nI 0)]))] sz) ([(h0, .inr (4, [.ref (u 0), .ref (u 1), .ref (u 2), .ref (u 3), .ref (u 4), .int (nI 0)])), (u 0, .inl (g.2.1.1, 80, .inl (fun _ => nI 0))), (u 1, .inl (g.2.1.1, 10, .inl (fun _ => nI 0))), (u 2, .inl (g.2.1.1, 10, .inl (fun _ => nI 0))), (u 3, .inl (g.2.1.1, 10, .inl (fun _ => nI 0))), (u 4, .inl (g.2.1.1, 4, .inl (fil (fun _ => nI 0) (nI 7) 4)))])) (va_A [(h0, .inr (4, [.null, .null, .null, .null, .null, .int (nI 0)]))] sz)) 5 114 (va_A [(h0, .inr (4, [.null, .null, .null, .null, .null, .int (nI 0)]))] sz) := by
  refine Met.ofW (cc := cX4_init) (maxL := 1) (ret := none) (by decide) rfl ?_
  intro p e s m args below meth c s₁ B hml hv
  obtain ⟨rfl, hsz, hP, hK, hN, hD0⟩ := hv
  have hx := B.exec
  have hb := B.bytes
  have hr := B.returns
  have hts := atoms_spec (ws := wsX4_init) B.pre
  have hown : s.vm.findClass RX4 = some m.cls := findClass_of_methodNamed B.named
  have hlocks := B.notSynchronized
  have hin : meth.name = "<init>" := (name_of_methodNamed B.named B.method).1
  subst hsz
  have hD := hD0.self (sz := s.heap.size)
  generalize hAe : va_A [(h0, .inr (4, [.null, .null, .null, .null, .null, .int (nI 0)]))] s.heap.size = A at hD ⊢
  have hA : ∀ q : Nat, s.heap.size ≤ q → A q := fun q h => by rw [← hAe]; exact Or.inr h
  have hS : va_S A s.heap s.heap [] := va_S.rf
  have hl := lv_entry ([.ref h0]) (n := 1) (Nat.le_of_ble_eq_true rfl)
  rw [lg_entry_eq]
  generalize (lg_sl ([.ref h0]) ++ List.replicate (1 - (lg_sl ([.ref h0])).length) Slot.unset).toArray = ls at hl ⊢
  have hl : lv_has ls 1 [(0, .ref h0)] := hl
  refine lv_aload_n hx hb dX4_init_0 rfl (lv_at hl 0 rfl) ?_
  refine W.objInit hx hb hown (hts (.methodLink RX4 3 objectInit) (by decide +kernel)) (hts (.instanceMethod objectInit) (by decide +kernel)) (hts (.code objectInit ⟨#[0xb1]⟩ 1 none) (by decide +kernel)) rfl (by rw [hml]; exact hl.1) rfl dX4_init_1 (Nat.le_of_ble_eq_true rfl) (Nat.le_of_ble_eq_true rfl) ?_
  refine W.eq (g2 := F0 m 4 ls []) rfl ?_
  refine lv_aload_n hx hb dX4_init_4 rfl (lv_at hl 0 rfl) ?_
  refine lv_bipush (v := nI 80) hx hb dX4_init_5 (by decide) ?_
  refine an_newa (atype := .int) (ty := .int) (cA := g.2.1.1) (N' := 80) (a0 := (80, .inl (fun _ => nI 0))) hx hb (hts (.arrayClass .int) (by decide +kernel)) rfl hK 0 rfl (fun _ h => h) hP hD hS hA (fun _ => rfl) (by decide) (by decide) (Nat.le_of_ble_eq_true rfl) (Nat.le_of_ble_eq_true rfl) dX4_init_7 (fun q7 H hP hD hS => ?_)
  have hP : va_P g.1 vwCl [(h0, .inr (4, [.null, .null, .null, .null, .null, .int (nI 0)])), (q7, .inl (g.2.1.1, 80, .inl (fun _ => nI 0)))] H := hP
  have hD : va_D A [(h0, .inr (4, [.null, .null, .null, .null, .null, .int (nI 0)])), (q7, .inl (g.2.1.1, 80, .inl (fun _ => nI 0)))] := hD
  refine W.widen (k := 1) (n := 80) (by decide) (by decide) ?_
  refine va_putF (D := g.1) (ci := 4) (v := .ref q7) (ty := (.array .int)) (C := RX4) (T := TX4) (N := 6) hx hb hts iw_X4_init_X4 tyX4 tyX4_ok nmX4 hown hK hP hD hS 0 rfl rfl 0 (by decide) (hts _ fl_X4_init_9) (fun _ h => h) rfl hin rfl (by decide +kernel) rfl rfl (Nat.le_of_ble_eq_true rfl) dX4_init_9 (fun H locs hP hD hS => ?_)
  have hP : va_P g.1 vwCl [(h0, .inr (4, [.ref q7, .null, .null, .null, .null, .int (nI 0)])), (q7, .inl (g.2.1.1, 80, .inl (fun _ => nI 0)))] H := hP
  have hD : va_D A [(h0, .inr (4, [.ref q7, .null, .null, .null, .null, .int (nI 0)])), (q7, .inl (g.2.1.1, 80, .inl (fun _ => nI 0)))] := hD
  refine lv_aload_n hx hb dX4_init_12 rfl (lv_at hl 0 rfl) ?_
  refine lv_bipush (v := nI 10) hx hb dX4_init_13 (by decide) ?_
  refine an_newa (atype := .int) (ty := .int) (cA := g.2.1.1) (N' := 10) (a0 := (10, .inl (fun _ => nI 0))) hx hb (hts (.arrayClass .int) (by decide +kernel)) rfl hK 0 rfl (fun _ h => h) hP hD hS hA (fun _ => rfl) (by decide) (by decide) (Nat.le_of_ble_eq_true rfl) (Nat.le_of_ble_eq_true rfl) dX4_init_15 (fun q15 H hP hD hS => ?_)
  have hP : va_P g.1 vwCl [(h0, .inr (4, [.ref q7, .null, .null, .null, .null, .int (nI 0)])), (q7, .inl (g.2.1.1, 80, .inl (fun _ => nI 0))), (q15, .inl (g.2.1.1, 10, .inl (fun _ => nI 0)))] H := hP
  have hD : va_D A [(h0, .inr (4, [.ref q7, .null, .null, .null, .null, .int (nI 0)])), (q7, .inl (g.2.1.1, 80, .inl (fun _ => nI 0))), (q15, .inl (g.2.1.1, 10, .inl (fun _ => nI 0)))] := hD
  refine W.widen (k := 2) (n := 90) (by decide) (by decide) ?_
  refine va_putF (D := g.1) (ci := 4) (v := .ref q15) (ty := (.array .int)) (C := RX4) (T := TX4) (N := 6) hx hb hts iw_X4_init_X4 tyX4 tyX4_ok nmX4 hown hK hP hD hS 0 rfl rfl 1 (by decide) (hts _ fl_X4_init_15) (fun _ h => h) rfl hin rfl (by decide +kernel) rfl rfl (Nat.le_of_ble_eq_true rfl) dX4_init_17 (fun H locs hP hD hS => ?_)
  have hP : va_P g.1 vwCl [(h0, .inr (4, [.ref q7, .ref q15, .null, .null, .null, .int (nI 0)])), (q7, .inl (g.2.1.1, 80, .inl (fun _ => nI 0))), (q15, .inl (g.2.1.1, 10, .inl (fun _ => nI 0)))] H := hP
  have hD : va_D A [(h0, .inr (4, [.ref q7, .ref q15, .null, .null, .null, .int (nI 0)])), (q7, .inl (g.2.1.1, 80, .inl (fun _ => nI 0))), (q15, .inl (g.2.1.1, 10, .inl (fun _ => nI 0)))] := hD
  refine lv_aload_n hx hb dX4_init_20 rfl (lv_at hl 0 rfl) ?_
  refine lv_bipush (v := nI 10) hx hb dX4_init_21 (by decide) ?_
  refine an_newa (atype := .int) (ty := .int) (cA := g.2.1.1) (N' := 10) (a0 := (10, .inl (fun _ => nI 0))) hx hb (hts (.arrayClass .int) (by decide +kernel)) rfl hK 0 rfl (fun _ h => h) hP hD hS hA (fun _ => rfl) (by decide) (by decide) (Nat.le_of_ble_eq_true rfl) (Nat.le_of_ble_eq_true rfl) dX4_init_23 (fun q23 H hP hD hS => ?_)
  have hP : va_P g.1 vwCl [(h0, .inr (4, [.ref q7, .ref q15, .null, .null, .null, .int (nI 0)])), (q7, .inl (g.2.1.1, 80, .inl (fun _ => nI 0))), (q15, .inl (g.2.1.1, 10, .inl (fun _ => nI 0))), (q23, .inl (g.2.1.1, 10, .inl (fun _ => nI 0)))] H := hP
  have hD : va_D A [(h0, .inr (4, [.ref q7, .ref q15, .null, .null, .null, .int (nI 0)])), (q7, .inl (g.2.1.1, 80, .inl (fun _ => nI 0))), (q15, .inl (g.2.1.1, 10, .inl (fun _ => nI 0))), (q23, .inl (g.2.1.1, 10, .inl (fun _ => nI 0)))] := hD
  refine W.widen (k := 3) (n := 100) (by decide) (by decide) ?_
  refine va_putF (D := g.1) (ci := 4) (v := .ref q23) (ty := (.array .int)) (C := RX4) (T := TX4) (N := 6) hx hb hts iw_X4_init_X4 tyX4 tyX4_ok nmX4 hown hK hP hD hS 0 rfl rfl 2 (by decide) (hts _ fl_X4_init_18) (fun _ h => h) rfl hin rfl (by decide +kernel) rfl rfl (Nat.le_of_ble_eq_true rfl) dX4_init_25 (fun H locs hP hD hS => ?_)
  have hP : va_P g.1 vwCl [(h0, .inr (4, [.ref q7, .ref q15, .ref q23, .null, .null, .int (nI 0)])), (q7, .inl (g.2.1.1, 80, .inl (fun _ => nI 0))), (q15, .inl (g.2.1.1, 10, .inl (fun _ => nI 0))), (q23, .inl (g.2.1.1, 10, .inl (fun _ => nI 0)))] H := hP
  have hD : va_D A [(h0, .inr (4, [.ref q7, .ref q15, .ref q23, .null, .null, .int (nI 0)])), (q7, .inl (g.2.1.1, 80, .inl (fun _ => nI 0))), (q15, .inl (g.2.1.1, 10, .inl (fun _ => nI 0))), (q23, .inl (g.2.1.1, 10, .inl (fun _ => nI 0)))] := hD
  refine lv_aload_n hx hb dX4_init_28 rfl (lv_at hl 0 rfl) ?_
  refine lv_bipush (v := nI 10) hx hb dX4_init_29 (by decide) ?_
  refine an_newa (atype := .int) (ty := .int) (cA := g.2.1.1) (N' := 10) (a0 := (10, .inl (fun _ => nI 0))) hx hb (hts (.arrayClass .int) (by decide +kernel)) rfl hK 0 rfl (fun _ h => h) hP hD hS hA (fun _ => rfl) (by decide) (by decide) (Nat.le_of_ble_eq_true rfl) (Nat.le_of_ble_eq_true rfl) dX4_init_31 (fun q31 H hP hD hS => ?_)
  have hP : va_P g.1 vwCl [(h0, .inr (4, [.ref q7, .ref q15, .ref q23, .null, .null, .int (nI 0)])), (q7, .inl (g.2.1.1, 80, .inl (fun _ => nI 0))), (q15, .inl (g.2.1.1, 10, .inl (fun _ => nI 0))), (q23, .inl (g.2.1.1, 10, .inl (fun _ => nI 0))), (q31, .inl (g.2.1.1, 10, .inl (fun _ => nI 0)))] H := hP
  have hD : va_D A [(h0, .inr (4, [.ref q7, .ref q15, .ref q23, .null, .null, .int (nI 0)])), (q7, .inl (g.2.1.1, 80, .inl (fun _ => nI 0))), (q15, .inl (g.2.1.1, 10, .inl (fun _ => nI 0))), (q23, .inl (g.2.1.1, 10, .inl (fun _ => nI 0))), (q31, .inl (g.2.1.1, 10, .inl (fun _ => nI 0)))] := hD
  refine W.widen (k := 4) (n := 110) (by decide) (by decide) ?_
  refine va_putF (D := g.1) (ci := 4) (v := .ref q31) (ty := (.array .int)) (C := RX4) (T := TX4) (N := 6) hx hb hts iw_X4_init_X4 tyX4 tyX4_ok nmX4 hown hK hP hD hS 0 rfl rfl 3 (by decide) (hts _ fl_X4_init_21) (fun _ h => h) rfl hin rfl (by decide +kernel) rfl rfl (Nat.le_of_ble_eq_true rfl) dX4_init_33 (fun H locs hP hD hS => ?_)
  have hP : va_P g.1 vwCl [(h0, .inr (4, [.ref q7, .ref q15, .ref q23, .ref q31, .null, .int (nI 0)])), (q7, .inl (g.2.1.1, 80, .inl (fun _ => nI 0))), (q15, .inl (g.2.1.1, 10, .inl (fun _ => nI 0))), (q23, .inl (g.2.1.1, 10, .inl (fun _ => nI 0))), (q31, .inl (g.2.1.1, 10, .inl (fun _ => nI 0)))] H := hP
  have hD : va_D A [(h0, .inr (4, [.ref q7, .ref q15, .ref q23, .ref q31, .null, .int (nI 0)])), (q7, .inl (g.2.1.1, 80, .inl (fun _ => nI 0))), (q15, .inl (g.2.1.1, 10, .inl (fun _ => nI 0))), (q23, .inl (g.2.1.1, 10, .inl (fun _ => nI 0))), (q31, .inl (g.2.1.1, 10, .inl (fun _ => nI 0)))] := hD
  refine lv_aload_n hx hb dX4_init_36 rfl (lv_at hl 0 rfl) ?_
  refine lv_iconst (v := nI 4) hx hb dX4_init_37 (by decide) ?_
  refine an_newa (atype := .int) (ty := .int) (cA := g.2.1.1) (N' := 4) (a0 := (4, .inl (fun _ => nI 0))) hx hb (hts (.arrayClass .int) (by decide +kernel)) rfl hK 0 rfl (fun _ h => h) hP hD hS hA (fun _ => rfl) (by decide) (by decide) (Nat.le_of_ble_eq_true rfl) (Nat.le_of_ble_eq_true rfl) dX4_init_38 (fun q38 H hP hD hS => ?_)
  have hP : va_P g.1 vwCl [(h0, .inr (4, [.ref q7, .ref q15, .ref q23, .ref q31, .null, .int (nI 0)])), (q7, .inl (g.2.1.1, 80, .inl (fun _ => nI 0))), (q15, .inl (g.2.1.1, 10, .inl (fun _ => nI 0))), (q23, .inl (g.2.1.1, 10, .inl (fun _ => nI 0))), (q31, .inl (g.2.1.1, 10, .inl (fun _ => nI 0))), (q38, .inl (g.2.1.1, 4, .inl (fun _ => nI 0)))] H := hP
  have hD : va_D A [(h0, .inr (4, [.ref q7, .ref q15, .ref q23, .ref q31, .null, .int (nI 0)])), (q7, .inl (g.2.1.1, 80, .inl (fun _ => nI 0))), (q15, .inl (g.2.1.1, 10, .inl (fun _ => nI 0))), (q23, .inl (g.2.1.1, 10, .inl (fun _ => nI 0))), (q31, .inl (g.2.1.1, 10, .inl (fun _ => nI 0))), (q38, .inl (g.2.1.1, 4, .inl (fun _ => nI 0)))] := hD
  refine W.widen (k := 5) (n := 114) (by decide) (by decide) ?_
  refine va_putF (D := g.1) (ci := 4) (v := .ref q38) (ty := (.array .int)) (C := RX4) (T := TX4) (N := 6) hx hb hts iw_X4_init_X4 tyX4 tyX4_ok nmX4 hown hK hP hD hS 0 rfl rfl 4 (by decide) (hts _ fl_X4_init_24) (fun _ h => h) rfl hin rfl (by decide +kernel) rfl rfl (Nat.le_of_ble_eq_true rfl) dX4_init_40 (fun H locs hP hD hS => ?_)
  have hP : va_P g.1 vwCl [(h0, .inr (4, [.ref q7, .ref q15, .ref q23, .ref q31, .ref q38, .int (nI 0)])), (q7, .inl (g.2.1.1, 80, .inl (fun _ => nI 0))), (q15, .inl (g.2.1.1, 10, .inl (fun _ => nI 0))), (q23, .inl (g.2.1.1, 10, .inl (fun _ => nI 0))), (q31, .inl (g.2.1.1, 10, .inl (fun _ => nI 0))), (q38, .inl (g.2.1.1, 4, .inl (fun _ => nI 0)))] H := hP
  have hD : va_D A [(h0, .inr (4, [.ref q7, .ref q15, .ref q23, .ref q31, .ref q38, .int (nI 0)])), (q7, .inl (g.2.1.1, 80, .inl (fun _ => nI 0))), (q15, .inl (g.2.1.1, 10, .inl (fun _ => nI 0))), (q23, .inl (g.2.1.1, 10, .inl (fun _ => nI 0))), (q31, .inl (g.2.1.1, 10, .inl (fun _ => nI 0))), (q38, .inl (g.2.1.1, 4, .inl (fun _ => nI 0)))] := hD
  refine lv_aload_n hx hb dX4_init_43 rfl (lv_at hl 0 rfl) ?_
  refine an_get (D := g.1) (ci := 4) (v := .ref q38) (C := RX4) (T := TX4) (N := 6) hx hb hts iw_X4_init_X4 hown hK hP 0 rfl rfl 4 (by decide) (hts _ fl_X4_init_24) rfl dX4_init_44 ?_
  refine lv_bipush (v := nI 7) hx hb dX4_init_47 (by decide) ?_
  have hPc := hP.sub (ws' := [(q38, .inl (g.2.1.1, 4, .inl (fun _ => nI 0)))]) [5] rfl
  have hDc := hD.sub (ws' := [(q38, .inl (g.2.1.1, 4, .inl (fun _ => nI 0)))]) [5] (by decide) rfl
  have hFc := va_free (wc := [(q38, .inl (g.2.1.1, 4, .inl (fun _ => nI 0)))]) hD hS hA [5] rfl
  refine va_callv (va_runS (As := [.ref q38, .int (nI 7)]) (rest := []) ⟨hx, hb, hml, hown, hts⟩ (c_J7_fill_53178 l q38 (fun _ => nI 0) (nI 7) H.size) (va_cwS 2 hts gX4_init_J7_fill_53178 rfl rfl rfl (by decide +kernel) ⟨Nat.le_of_ble_eq_true rfl, Nat.le_of_ble_eq_true rfl⟩) (pre_S cW_bl (fun U hU hW => cW_of hPc hK hN hDc hU hW)) rfl rfl hl.1 rfl (lv_room (Nat.le_of_ble_eq_true rfl)) dX4_init_49 ⟨Nat.le_of_ble_eq_true rfl, Nat.le_of_ble_eq_true rfl⟩) hS (fun q _ h => hFc q h) hFc (fun u49 t H1 locs ht hvm hw hB hz1 hk1 hS => ?_)
  obtain ⟨hP1, hD1⟩ := hB
  rw [ht] at hP1
  obtain ⟨hP, hD⟩ := va_join (wr := [(h0, .inr (4, [.ref q7, .ref q15, .ref q23, .ref q31, .ref q38, .int (nI 0)])), (q7, .inl (g.2.1.1, 80, .inl (fun _ => nI 0))), (q15, .inl (g.2.1.1, 10, .inl (fun _ => nI 0))), (q23, .inl (g.2.1.1, 10, .inl (fun _ => nI 0))), (q31, .inl (g.2.1.1, 10, .inl (fun _ => nI 0)))]) (w1 := [(q38, .inl (g.2.1.1, 4, .inl (fil (fun _ => nI 0) (nI 7) 4)))]) hP hD [5] [0, 1, 2, 3, 4] rfl rfl (by decide) (by decide) hk1 hFc hP1 hD1
  generalize H1 = H at hP hS ⊢
  have hP : va_P g.1 vwCl [(h0, .inr (4, [.ref q7, .ref q15, .ref q23, .ref q31, .ref q38, .int (nI 0)])), (q7, .inl (g.2.1.1, 80, .inl (fun _ => nI 0))), (q15, .inl (g.2.1.1, 10, .inl (fun _ => nI 0))), (q23, .inl (g.2.1.1, 10, .inl (fun _ => nI 0))), (q31, .inl (g.2.1.1, 10, .inl (fun _ => nI 0))), (q38, .inl (g.2.1.1, 4, .inl (fil (fun _ => nI 0) (nI 7) 4)))] H := hP
  have hD : va_D A [(h0, .inr (4, [.ref q7, .ref q15, .ref q23, .ref q31, .ref q38, .int (nI 0)])), (q7, .inl (g.2.1.1, 80, .inl (fun _ => nI 0))), (q15, .inl (g.2.1.1, 10, .inl (fun _ => nI 0))), (q23, .inl (g.2.1.1, 10, .inl (fun _ => nI 0))), (q31, .inl (g.2.1.1, 10, .inl (fun _ => nI 0))), (q38, .inl (g.2.1.1, 4, .inl (fil (fun _ => nI 0) (nI 7) 4)))] := hD
  refine W.widen (k := 5) (n := 114) (by decide) (by decide) ?_
  refine W.widen (k := 5) (n := 114) (by decide) (by decide) ?_
  exact wr_vret (fun k => match k with | 0 => q7 | 1 => q15 | 2 => q23 | 3 => q31 | _ => q38) hx hb hr hlocks (trivial) (fun t ht => ⟨by rw [ht]; exact hP, hD⟩) hS dX4_init_52
