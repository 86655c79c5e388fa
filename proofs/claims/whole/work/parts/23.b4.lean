theorem iw_X4_fitsPart_X1 : ∀ w ∈ u_ws RX1 TX1 5, w ∈ wsX4_fitsPart := by decide +kernel
theorem iw_X4_fitsPart_X4 : ∀ w ∈ u_ws RX4 TX4 6, w ∈ wsX4_fitsPart := by decide +kernel
theorem fl_X4_fitsPart_9 : Cond.fieldLink RX4 9 (TX4 0).1 (TX4 0).2.1 (TX4 0).2.2.1 ∈ wsX4_fitsPart := by decide +kernel
theorem fl_X4_fitsPart_15 : Cond.fieldLink RX4 15 (TX4 1).1 (TX4 1).2.1 (TX4 1).2.2.1 ∈ wsX4_fitsPart := by decide +kernel
theorem fl_X4_fitsPart_33 : Cond.fieldLink RX4 33 (TX1 0).1 (TX1 0).2.1 (TX1 0).2.2.1 ∈ wsX4_fitsPart := by decide +kernel
theorem fl_X4_fitsPart_51 : Cond.fieldLink RX4 51 (TX1 1).1 (TX1 1).2.1 (TX1 1).2.2.1 ∈ wsX4_fitsPart := by decide +kernel
theorem fl_X4_fitsPart_54 : Cond.fieldLink RX4 54 (TX1 2).1 (TX1 2).2.1 (TX1 2).2.2.1 ∈ wsX4_fitsPart := by decide +kernel
set_option maxHeartbeats 200000 in
set_option maxRecDepth 100000 in
theorem c_X4_fitsPart (l : Launch) {g : GW} {asked : Int64} {values : Nat → Int32} {bytes : Nat → Int32} {starts : Nat → Int32} {ends : Nat → Int32} {L : Nat} {parts : Int32} {texts : Nat → Int32} {lengths : Nat → Int32} {feet : Nat → Int32} {sorts : Nat → Int32} {nxt : Nat → Int32} {size : Int32} {sums : Nat → Int32} {oneSums : Nat → Int32} {otherSums : Nat → Int32} {byFeet : Nat → Int64} {kept : Nat → Int64} {over : Int32} {rcount : Int32} {rcust : Int32} {ssums : Nat → Int32} {ways : Nat → Int64} {nextWays : Nat → Int64} {reached : Nat → Int64} {nextReached : Nat → Int64} {found : Int32} {least : Int32} {greatest : Int32} (vocable : Nat) (part : Nat) (nv : Nat) (hnv : nv ≤ 10) (hv : vocable < nv) (hL2 : L ≤ 40) (hpt : part < pn bytes L) (hrow : prow bytes L starts ends) (hle : okV lengths nv 1 8) : Met l yX4_fitsPart wsX4_fitsPart ({ frames := 0, cells := 0, slots := 0, locals := 0 }) (va_Pc ([.ref (g.2.2 7), .int (nI (vocable)), .ref (g.2.2 3), .int (nI (part))]) (pW g (wX g asked values bytes starts ends (nI (L)) parts texts lengths feet sorts nxt size sums oneSums otherSums byFeet kept over rcount rcust ssums ways nextWays reached nextReached found least greatest))) (ro_Q (.int (if fitP bytes texts lengths L part vocable then 1 else 0))) 0 0 (fun _ => False) := by
  refine Met.ofW (cc := cX4_fitsPart) (maxL := 8) (ret := (some .boolean)) (by decide) rfl ?_
  intro p e s m args below meth c s₁ B hml hv
  obtain ⟨rfl, hP, hK, hN⟩ := hv
  have hx := B.exec
  have hb := B.bytes
  have hr := B.returns
  have hts := atoms_spec (ws := wsX4_fitsPart) B.pre
  have hown : s.vm.findClass RX4 = some m.cls := findClass_of_methodNamed B.named
  have hlocks := B.notSynchronized
  have hl := lv_entry ([.ref (g.2.2 7), .int (nI (vocable)), .ref (g.2.2 3), .int (nI (part))]) (n := 8) (Nat.le_of_ble_eq_true rfl)
  rw [lg_entry_eq]
  generalize (lg_sl ([.ref (g.2.2 7), .int (nI (vocable)), .ref (g.2.2 3), .int (nI (part))]) ++ List.replicate (8 - (lg_sl ([.ref (g.2.2 7), .int (nI (vocable)), .ref (g.2.2 3), .int (nI (part))])).length) Slot.unset).toArray = ls at hl ⊢
  have hl : lv_has ls 8 [(0, .ref (g.2.2 7)), (1, .int (nI (vocable))), (2, .ref (g.2.2 3)), (3, .int (nI (part)))] := hl
  have hpr := hrow part hpt
  have hpe := pse bytes L part hpt
  have hlv := hle vocable hv
  have hp20 := pn_room bytes L
  refine lv_aload_n hx hb dX4_fitsPart_0 rfl (lv_at hl 2 rfl) ?_
  refine an_get (ci := 1) (v := .ref (g.2.2 5)) (C := RX1) (T := TX1) (N := 5) hx hb hts iw_X4_fitsPart_X1 hown hK hP 3 rfl rfl 1 (by decide) (hts _ fl_X4_fitsPart_51) rfl dX4_fitsPart_1 ?_
  refine lv_iload_n hx hb dX4_fitsPart_4 rfl (lv_at hl 3 rfl) ?_
  refine an_iald (f := starts) hx hb hK hP 5 0 rfl rfl (by decide) (by omega) dX4_fitsPart_5 ?_
  refine ln_toi (y := (nI (psx bytes L part))) (hpr.1) ?_
  refine lv_istore (lv' := [(4, .int (nI (psx bytes L part))), (0, .ref (g.2.2 7)), (1, .int (nI (vocable))), (2, .ref (g.2.2 3)), (3, .int (nI (part)))]) hx hb dX4_fitsPart_6 hl (by decide) rfl (fun ls hl => ?_)
  refine lv_aload_n hx hb dX4_fitsPart_8 rfl (lv_at hl 3 rfl) ?_
  refine an_get (ci := 1) (v := .ref (g.2.2 6)) (C := RX1) (T := TX1) (N := 5) hx hb hts iw_X4_fitsPart_X1 hown hK hP 3 rfl rfl 2 (by decide) (hts _ fl_X4_fitsPart_54) rfl dX4_fitsPart_9 ?_
  refine lv_iload_n hx hb dX4_fitsPart_12 rfl (lv_at hl 4 rfl) ?_
  refine an_iald (f := ends) hx hb hK hP 6 0 rfl rfl (by decide) (by omega) dX4_fitsPart_13 ?_
  refine ln_toi (y := (nI (pex bytes L part))) (hpr.2) ?_
  refine lv_iload hx hb dX4_fitsPart_14 (lv_at hl 0 rfl) ?_
  refine ln_isub hx hb (by omega) dX4_fitsPart_16 ?_
  refine lv_istore (lv' := [(5, .int (nI ((pex bytes L part) - (psx bytes L part)))), (4, .int (nI (psx bytes L part))), (0, .ref (g.2.2 7)), (1, .int (nI (vocable))), (2, .ref (g.2.2 3)), (3, .int (nI (part)))]) hx hb dX4_fitsPart_17 hl (by decide) rfl (fun ls hl => ?_)
  refine lv_iload hx hb dX4_fitsPart_19 (lv_at hl 0 rfl) ?_
  refine lv_aload_n hx hb dX4_fitsPart_21 rfl (lv_at hl 2 rfl) ?_
  refine an_get (ci := 4) (v := .ref (g.2.2 9)) (C := RX4) (T := TX4) (N := 6) hx hb hts iw_X4_fitsPart_X4 hown hK hP 7 rfl rfl 1 (by decide) (hts _ fl_X4_fitsPart_15) rfl dX4_fitsPart_22 ?_
  refine lv_iload_n hx hb dX4_fitsPart_25 rfl (lv_at hl 3 rfl) ?_
  refine an_iald (f := lengths) hx hb hK hP 9 0 rfl rfl (by decide) (by omega) dX4_fitsPart_26 ?_
  refine ln_toi (y := (nI (tn (lengths vocable)))) (hlv.1) ?_
  refine lv_icmp_eq (tgt := 32) hx hb dX4_fitsPart_27 (by decide) (fun c_27 => ?_) (fun c_27 => ?_)
  · have c_27 := (cv_eq_nn (by omega) (by omega)).mp c_27
    refine lv_iconst (v := (nI (0))) hx hb dX4_fitsPart_32 (by decide) ?_
    refine lv_istore (lv' := [(6, .int (nI (0))), (5, .int (nI ((pex bytes L part) - (psx bytes L part)))), (4, .int (nI (psx bytes L part))), (0, .ref (g.2.2 7)), (1, .int (nI (vocable))), (2, .ref (g.2.2 3)), (3, .int (nI (part)))]) hx hb dX4_fitsPart_33 hl (by decide) rfl (fun ls hl => ?_)
    have lp_35 : ∀ (n : Nat) (i : Nat), (i ≤ pex bytes L part - psx bytes L part) → (∀ k, k < i → ((bytes (psx bytes L part + k)).toInt = 63 ∨ (bytes (psx bytes L part + k)).toInt = (texts (vocable * 8 + k)).toInt)) → pex bytes L part - psx bytes L part - i < n → ∀ (ls : Array Slot), lv_has ls 8 [(0, .ref (g.2.2 7)), (1, .int (nI (vocable))), (2, .ref (g.2.2 3)), (3, .int (nI (part))), (4, .int (nI (psx bytes L part))), (5, .int (nI ((pex bytes L part) - (psx bytes L part)))), (6, .int (nI (i)))] → W p l e (headSpec wsX4_fitsPart ({ frames := 0, cells := 0, slots := 0, locals := 0 })).room s m (([.ref (g.2.2 7), .int (nI (vocable)), .ref (g.2.2 3), .int (nI (part))] : List Value).toArray) below meth c s.heap [] 0 0 (MQ below (ro_Q (.int (if fitP bytes texts lengths L part vocable then 1 else 0))) (([.ref (g.2.2 7), .int (nI (vocable)), .ref (g.2.2 3), .int (nI (part))] : List Value).toArray) s 0 0 (fun _ => False)) (F0 m 35 ls []) := by
      intro n
      induction n with
      | zero => intro i hi ho hm; exact absurd hm (Nat.not_lt_zero _)
      | succ n ih_35 =>
        intro i hi ho hm_35 ls hl
        refine lv_iload hx hb dX4_fitsPart_35 (lv_at hl 6 rfl) ?_
        refine lv_iload hx hb dX4_fitsPart_37 (lv_at hl 5 rfl) ?_
        refine lv_icmp_ge (tgt := 86) hx hb dX4_fitsPart_39 (by decide) (fun c_39 => ?_) (fun c_39 => ?_)
        · have c_39 := (cv_le_nn (by omega) (by omega)).mp c_39
          refine lv_iconst (v := (nI (1))) hx hb dX4_fitsPart_86 (by decide) ?_
          exact ro_zret hx hb hr hlocks (rfl) (one_if ⟨by omega, fun k hk => ho k (by omega)⟩) dX4_fitsPart_87
        · have c_39 := (not_congr (cv_le_nn (by omega) (by omega))).mp c_39
          refine lv_aload_n hx hb dX4_fitsPart_42 rfl (lv_at hl 2 rfl) ?_
          refine an_get (ci := 1) (v := .ref (g.2.2 4)) (C := RX1) (T := TX1) (N := 5) hx hb hts iw_X4_fitsPart_X1 hown hK hP 3 rfl rfl 0 (by decide) (hts _ fl_X4_fitsPart_33) rfl dX4_fitsPart_43 ?_
          refine lv_iload hx hb dX4_fitsPart_46 (lv_at hl 4 rfl) ?_
          refine lv_iload hx hb dX4_fitsPart_48 (lv_at hl 6 rfl) ?_
          refine ln_iadd hx hb dX4_fitsPart_50 ?_
          refine an_iald (f := bytes) hx hb hK hP 4 0 rfl rfl (by decide) (by omega) dX4_fitsPart_51 ?_
          refine lv_istore (lv' := [(7, .int (bytes ((psx bytes L part) + i))), (0, .ref (g.2.2 7)), (1, .int (nI (vocable))), (2, .ref (g.2.2 3)), (3, .int (nI (part))), (4, .int (nI (psx bytes L part))), (5, .int (nI ((pex bytes L part) - (psx bytes L part)))), (6, .int (nI (i)))]) hx hb dX4_fitsPart_52 hl (by decide) rfl (fun ls hl => ?_)
          refine lv_iload hx hb dX4_fitsPart_54 (lv_at hl 0 rfl) ?_
          refine lv_bipush (v := (nI (63))) hx hb dX4_fitsPart_56 (by decide) ?_
          refine lv_icmp_eq (tgt := 80) hx hb dX4_fitsPart_58 (by decide) (fun c_58 => ?_) (fun c_58 => ?_)
          · have c_58 := (cv_eq_in (by omega)).mp c_58
            refine lv_iinc (v := (nI (i + 1))) (lv' := [(6, .int (nI (i + 1))), (7, .int (bytes ((psx bytes L part) + i))), (0, .ref (g.2.2 7)), (1, .int (nI (vocable))), (2, .ref (g.2.2 3)), (3, .int (nI (part))), (4, .int (nI (psx bytes L part))), (5, .int (nI ((pex bytes L part) - (psx bytes L part))))]) hx hb dX4_fitsPart_80 hl (k := 7) rfl (nI_add _ 1) (by decide) rfl (fun ls hl => ?_)
            refine lv_goto (tgt := 35) hx hb dX4_fitsPart_83 (by decide) ?_
            exact ih_35 (i + 1) (by omega) (lt_s ho (Or.inl (by omega))) (by omega) ls (lv_sub hl [2, 3, 4, 5, 6, 7, 0] rfl)
          · have c_58 := (not_congr (cv_eq_in (by omega))).mp c_58
            refine lv_iload hx hb dX4_fitsPart_61 (lv_at hl 0 rfl) ?_
            refine lv_aload_n hx hb dX4_fitsPart_63 rfl (lv_at hl 1 rfl) ?_
            refine an_get (ci := 4) (v := .ref (g.2.2 8)) (C := RX4) (T := TX4) (N := 6) hx hb hts iw_X4_fitsPart_X4 hown hK hP 7 rfl rfl 0 (by decide) (hts _ fl_X4_fitsPart_9) rfl dX4_fitsPart_64 ?_
            refine lv_iload_n hx hb dX4_fitsPart_67 rfl (lv_at hl 2 rfl) ?_
            refine lv_bipush (v := (nI (8))) hx hb dX4_fitsPart_68 (by decide) ?_
            refine ln_imul hx hb dX4_fitsPart_70 ?_
            refine lv_iload hx hb dX4_fitsPart_71 (lv_at hl 7 rfl) ?_
            refine ln_iadd hx hb dX4_fitsPart_73 ?_
            refine an_iald (f := texts) hx hb hK hP 8 0 rfl rfl (by decide) (by omega) dX4_fitsPart_74 ?_
            refine lv_icmp_eq (tgt := 80) hx hb dX4_fitsPart_75 (by decide) (fun c_75 => ?_) (fun c_75 => ?_)
            · have c_75 := (cv_eq_ii ).mp c_75
              refine lv_iinc (v := (nI (i + 1))) (lv' := [(6, .int (nI (i + 1))), (7, .int (bytes ((psx bytes L part) + i))), (0, .ref (g.2.2 7)), (1, .int (nI (vocable))), (2, .ref (g.2.2 3)), (3, .int (nI (part))), (4, .int (nI (psx bytes L part))), (5, .int (nI ((pex bytes L part) - (psx bytes L part))))]) hx hb dX4_fitsPart_80 hl (k := 7) rfl (nI_add _ 1) (by decide) rfl (fun ls hl => ?_)
              refine lv_goto (tgt := 35) hx hb dX4_fitsPart_83 (by decide) ?_
              exact ih_35 (i + 1) (by omega) (lt_s ho (Or.inr (by omega))) (by omega) ls (lv_sub hl [2, 3, 4, 5, 6, 7, 0] rfl)
            · have c_75 := (not_congr (cv_eq_ii )).mp c_75
              refine lv_iconst (v := (nI (0))) hx hb dX4_fitsPart_78 (by decide) ?_
              exact ro_zret hx hb hr hlocks (rfl) (zero_if (fun q => absurd (q.2 i (by omega)) (by omega))) dX4_fitsPart_79
    exact lp_35 (pex bytes L part - psx bytes L part - (0) + 1) 0 (Nat.zero_le _) (fun k hk => absurd hk (Nat.not_lt_zero k)) (Nat.lt_succ_self _) ls (lv_sub hl [3, 4, 5, 6, 2, 1, 0] rfl)
  · have c_27 := (not_congr (cv_eq_nn (by omega) (by omega))).mp c_27
    refine lv_iconst (v := (nI (0))) hx hb dX4_fitsPart_30 (by decide) ?_
    exact ro_zret hx hb hr hlocks (rfl) (zero_if (fun q => absurd q.1 (by omega))) dX4_fitsPart_31
theorem iw_X2_fittingPart_X2 : ∀ w ∈ u_ws RX2 TX2 11, w ∈ wsX2_fittingPart := by decide +kernel
theorem iw_X2_fittingPart_X4 : ∀ w ∈ u_ws RX4 TX4 6, w ∈ wsX2_fittingPart := by decide +kernel
theorem fl_X2_fittingPart_28 : Cond.fieldLink RX2 28 (TX2 0).1 (TX2 0).2.1 (TX2 0).2.2.1 ∈ wsX2_fittingPart := by decide +kernel
theorem fl_X2_fittingPart_32 : Cond.fieldLink RX2 32 (TX2 1).1 (TX2 1).2.1 (TX2 1).2.2.1 ∈ wsX2_fittingPart := by decide +kernel
theorem fl_X2_fittingPart_40 : Cond.fieldLink RX2 40 (TX4 5).1 (TX4 5).2.1 (TX4 5).2.2.1 ∈ wsX2_fittingPart := by decide +kernel
set_option maxHeartbeats 200000 in
set_option maxRecDepth 100000 in
theorem c_X2_fittingPart (l : Launch) {g : GW} {asked : Int64} {values : Nat → Int32} {bytes : Nat → Int32} {starts : Nat → Int32} {ends : Nat → Int32} {L : Nat} {parts : Int32} {texts : Nat → Int32} {lengths : Nat → Int32} {feet : Nat → Int32} {sorts : Nat → Int32} {nxt : Nat → Int32} {nv : Nat} {sums : Nat → Int32} {oneSums : Nat → Int32} {otherSums : Nat → Int32} {byFeet : Nat → Int64} {kept : Nat → Int64} {over : Int32} {rcount : Int32} {rcust : Int32} {ssums : Nat → Int32} {ways : Nat → Int64} {nextWays : Nat → Int64} {reached : Nat → Int64} {nextReached : Nat → Int64} {found : Int32} {least : Int32} {greatest : Int32} (part : Nat) (hnv : nv ≤ 10) (hL2 : L ≤ 40) (hpt : part < pn bytes L) (hrow : prow bytes L starts ends) (hle : okV lengths nv 1 8) : Met l yX2_fittingPart wsX2_fittingPart ({ frames := 1, cells := 0, slots := 0, locals := 27 }) (va_Pc ([.ref (g.2.2 19), .int (nI (part))]) (pW g (wX g asked values bytes starts ends (nI (L)) parts texts lengths feet sorts nxt (nI (nv)) sums oneSums otherSums byFeet kept over rcount rcust ssums ways nextWays reached nextReached found least greatest))) (ro_Q (.int (nI (fitc bytes texts lengths L part nv)))) 0 0 (fun _ => False) := by
  refine Met.ofW (cc := cX2_fittingPart) (maxL := 4) (ret := (some .int)) (by decide) rfl ?_
  intro p e s m args below meth c s₁ B hml hv
  obtain ⟨rfl, hP, hK, hN⟩ := hv
  have hx := B.exec
  have hb := B.bytes
  have hr := B.returns
  have hts := atoms_spec (ws := wsX2_fittingPart) B.pre
  have hown : s.vm.findClass RX2 = some m.cls := findClass_of_methodNamed B.named
  have hlocks := B.notSynchronized
  have hl := lv_entry ([.ref (g.2.2 19), .int (nI (part))]) (n := 4) (Nat.le_of_ble_eq_true rfl)
  rw [lg_entry_eq]
  generalize (lg_sl ([.ref (g.2.2 19), .int (nI (part))]) ++ List.replicate (4 - (lg_sl ([.ref (g.2.2 19), .int (nI (part))])).length) Slot.unset).toArray = ls at hl ⊢
  have hl : lv_has ls 4 [(0, .ref (g.2.2 19)), (1, .int (nI (part)))] := hl
  refine lv_iconst (v := (nI (0))) hx hb dX2_fittingPart_0 (by decide) ?_
  refine lv_istore_n (lv' := [(2, .int (nI (0))), (0, .ref (g.2.2 19)), (1, .int (nI (part)))]) hx hb dX2_fittingPart_1 rfl hl (by decide) rfl (fun ls hl => ?_)
  refine lv_iconst (v := (nI (0))) hx hb dX2_fittingPart_2 (by decide) ?_
  refine lv_istore_n (lv' := [(3, .int (nI (0))), (2, .int (nI (0))), (0, .ref (g.2.2 19)), (1, .int (nI (part)))]) hx hb dX2_fittingPart_3 rfl hl (by decide) rfl (fun ls hl => ?_)
  have lp_4 : ∀ (n : Nat) (i : Nat), (i ≤ nv) → nv - i < n → ∀ (ls : Array Slot), lv_has ls 4 [(0, .ref (g.2.2 19)), (1, .int (nI (part))), (2, .int (nI (fitc bytes texts lengths L part i))), (3, .int (nI (i)))] → W p l e (headSpec wsX2_fittingPart ({ frames := 1, cells := 0, slots := 0, locals := 27 })).room s m (([.ref (g.2.2 19), .int (nI (part))] : List Value).toArray) below meth c s.heap [] 0 0 (MQ below (ro_Q (.int (nI (fitc bytes texts lengths L part nv)))) (([.ref (g.2.2 19), .int (nI (part))] : List Value).toArray) s 0 0 (fun _ => False)) (F0 m 4 ls []) := by
    intro n
    induction n with
    | zero => intro i hi hm; exact absurd hm (Nat.not_lt_zero _)
    | succ n ih_4 =>
      intro i hi hm_4 ls hl
      refine lv_iload_n hx hb dX2_fittingPart_4 rfl (lv_at hl 3 rfl) ?_
      refine lv_aload_n hx hb dX2_fittingPart_5 rfl (lv_at hl 0 rfl) ?_
      refine an_get (ci := 2) (v := .ref (g.2.2 7)) (C := RX2) (T := TX2) (N := 11) hx hb hts iw_X2_fittingPart_X2 hown hK hP 19 rfl rfl 1 (by decide) (hts _ fl_X2_fittingPart_32) rfl dX2_fittingPart_6 ?_
      refine an_get (ci := 4) (v := .int (nI (nv))) (C := RX4) (T := TX4) (N := 6) hx hb hts iw_X2_fittingPart_X4 hown hK hP 7 rfl rfl 5 (by decide) (hts _ fl_X2_fittingPart_40) rfl dX2_fittingPart_9 ?_
      refine lv_icmp_ge (tgt := 40) hx hb dX2_fittingPart_12 (by decide) (fun c_12 => ?_) (fun c_12 => ?_)
      · have c_12 := (cv_le_nn (by omega) (by omega)).mp c_12
        refine lv_iload_n hx hb dX2_fittingPart_40 rfl (lv_at hl 2 rfl) ?_
        exact ro_iret hx hb hr hlocks (by rw [show nv = i by omega]) dX2_fittingPart_41
      · have c_12 := (not_congr (cv_le_nn (by omega) (by omega))).mp c_12
        refine lv_aload_n hx hb dX2_fittingPart_15 rfl (lv_at hl 0 rfl) ?_
        refine an_get (ci := 2) (v := .ref (g.2.2 7)) (C := RX2) (T := TX2) (N := 11) hx hb hts iw_X2_fittingPart_X2 hown hK hP 19 rfl rfl 1 (by decide) (hts _ fl_X2_fittingPart_32) rfl dX2_fittingPart_16 ?_
        refine lv_iload_n hx hb dX2_fittingPart_19 rfl (lv_at hl 3 rfl) ?_
        refine lv_aload_n hx hb dX2_fittingPart_20 rfl (lv_at hl 0 rfl) ?_
        refine an_get (ci := 2) (v := .ref (g.2.2 3)) (C := RX2) (T := TX2) (N := 11) hx hb hts iw_X2_fittingPart_X2 hown hK hP 19 rfl rfl 0 (by decide) (hts _ fl_X2_fittingPart_28) rfl dX2_fittingPart_21 ?_
        refine lv_iload_n hx hb dX2_fittingPart_24 rfl (lv_at hl 1 rfl) ?_
        refine ro_call (va_runV (As := [.int (nI (i)), .ref (g.2.2 3), .int (nI (part))]) (rest := []) ⟨hx, hb, hml, hown, hts⟩ (c_X4_fitsPart l (g := g) (asked := asked) (values := values) (bytes := bytes) (starts := starts) (ends := ends) (L := L) (parts := parts) (texts := texts) (lengths := lengths) (feet := feet) (sorts := sorts) (nxt := nxt) (size := nI (nv)) (sums := sums) (oneSums := oneSums) (otherSums := otherSums) (byFeet := byFeet) (kept := kept) (over := over) (rcount := rcount) (rcust := rcust) (ssums := ssums) (ways := ways) (nextWays := nextWays) (reached := reached) (nextReached := nextReached) (found := found) (least := least) (greatest := greatest) (i) (part) nv hnv (by omega) hL2 hpt hrow hle) (cwV 3 hts gX2_fittingPart_X4_fitsPart rfl rfl rfl (by decide +kernel) ⟨Nat.le_of_ble_eq_true rfl, Nat.le_of_ble_eq_true rfl⟩) (pre_V pW_bl (va_recv hK hP (ci := 4) (q0 := 7) rfl rfl) (fun U hU hW => pW_of hP hK hN hU hW)) rfl rfl hl.1 rfl (lv_room (Nat.le_of_ble_eq_true rfl)) dX2_fittingPart_25 ⟨Nat.zero_le _, Nat.zero_le _⟩) ?_
        refine lv_if_eq (tgt := 34) hx hb dX2_fittingPart_28 (by decide) (fun c_28 => ?_) (fun c_28 => ?_)
        · have c_28 := if_n c_28
          refine lv_iinc (v := (nI (i + 1))) (lv' := [(3, .int (nI (i + 1))), (0, .ref (g.2.2 19)), (1, .int (nI (part))), (2, .int (nI (fitc bytes texts lengths L part i)))]) hx hb dX2_fittingPart_34 hl (k := 3) rfl (nI_add _ 1) (by decide) rfl (fun ls hl => ?_)
          refine lv_goto (tgt := 4) hx hb dX2_fittingPart_37 (by decide) ?_
          rw [fitc_n c_28] at hl
          exact ih_4 (i + 1) (by omega) (by omega) ls (lv_sub hl [1, 2, 3, 0] rfl)
        · have c_28 := if_p c_28
          refine lv_iinc (v := (nI ((fitc bytes texts lengths L part i) + 1))) (lv' := [(2, .int (nI ((fitc bytes texts lengths L part i) + 1))), (0, .ref (g.2.2 19)), (1, .int (nI (part))), (3, .int (nI (i)))]) hx hb dX2_fittingPart_31 hl (k := 2) rfl (nI_add _ 1) (by decide) rfl (fun ls hl => ?_)
          refine lv_iinc (v := (nI (i + 1))) (lv' := [(3, .int (nI (i + 1))), (2, .int (nI ((fitc bytes texts lengths L part i) + 1))), (0, .ref (g.2.2 19)), (1, .int (nI (part)))]) hx hb dX2_fittingPart_34 hl (k := 3) rfl (nI_add _ 1) (by decide) rfl (fun ls hl => ?_)
          refine lv_goto (tgt := 4) hx hb dX2_fittingPart_37 (by decide) ?_
          rw [fitc_y c_28] at hl
          exact ih_4 (i + 1) (by omega) (by omega) ls (lv_sub hl [2, 3, 1, 0] rfl)
  exact lp_4 (nv - (0) + 1) 0 (Nat.zero_le _) (Nat.lt_succ_self _) ls (lv_sub hl [2, 3, 1, 0] rfl)
theorem iw_X2_waysTo_X2 : ∀ w ∈ u_ws RX2 TX2 11, w ∈ wsX2_waysTo := by decide +kernel
theorem fl_X2_waysTo_15 : Cond.fieldLink RX2 15 (TX2 4).1 (TX2 4).2.1 (TX2 4).2.2.1 ∈ wsX2_waysTo := by decide +kernel
theorem fl_X2_waysTo_32 : Cond.fieldLink RX2 32 (TX2 1).1 (TX2 1).2.1 (TX2 1).2.2.1 ∈ wsX2_waysTo := by decide +kernel
set_option maxHeartbeats 200000 in
set_option maxRecDepth 100000 in
theorem c_X2_waysTo (l : Launch) {g : GW} {asked : Int64} {values : Nat → Int32} {bytes : Nat → Int32} {starts : Nat → Int32} {ends : Nat → Int32} {length : Int32} {parts : Int32} {texts : Nat → Int32} {lengths : Nat → Int32} {feet : Nat → Int32} {sorts : Nat → Int32} {nxt : Nat → Int32} {size : Int32} {sums : Nat → Int32} {oneSums : Nat → Int32} {otherSums : Nat → Int32} {byFeet : Nat → Int64} {kept : Nat → Int64} {over : Int32} {rcount : Int32} {rcust : Int32} {ssums : Nat → Int32} {ways : Nat → Int64} {nextWays : Nat → Int64} {reached : Nat → Int64} {nextReached : Nat → Int64} {found : Int32} {least : Int32} {greatest : Int32} (vocable : Nat) (w : Nat → Nat) (hw : ∀ k, k < 4 → ways k = lN (w k)) (hv : vocable < 10) : Met l yX2_waysTo wsX2_waysTo ({ frames := 1, cells := 0, slots := 0, locals := 22 }) (va_Pc ([.ref (g.2.2 19), .int (nI (vocable))]) (pW g (wX g asked values bytes starts ends length parts texts lengths feet sorts nxt size sums oneSums otherSums byFeet kept over rcount rcust ssums ways nextWays reached nextReached found least greatest))) (ro_Q (.long (lN (wto nxt sorts w vocable 4)))) 0 0 (fun _ => False) := by
  refine Met.ofW (cc := cX2_waysTo) (maxL := 5) (ret := (some .long)) (by decide) rfl ?_
  intro p e s m args below meth c s₁ B hml hv
  obtain ⟨rfl, hP, hK, hN⟩ := hv
  have hx := B.exec
  have hb := B.bytes
  have hr := B.returns
  have hts := atoms_spec (ws := wsX2_waysTo) B.pre
  have hown : s.vm.findClass RX2 = some m.cls := findClass_of_methodNamed B.named
  have hlocks := B.notSynchronized
  have hl := lv_entry ([.ref (g.2.2 19), .int (nI (vocable))]) (n := 5) (Nat.le_of_ble_eq_true rfl)
  rw [lg_entry_eq]
  generalize (lg_sl ([.ref (g.2.2 19), .int (nI (vocable))]) ++ List.replicate (5 - (lg_sl ([.ref (g.2.2 19), .int (nI (vocable))])).length) Slot.unset).toArray = ls at hl ⊢
  have hl : lv_has ls 5 [(0, .ref (g.2.2 19)), (1, .int (nI (vocable)))] := hl
  refine lv_lconst (v := (lN (0))) hx hb dX2_waysTo_0 (by decide) ?_
  refine lv_lstore_n (lv' := [(2, .long (lN (0))), (0, .ref (g.2.2 19)), (1, .int (nI (vocable)))]) hx hb dX2_waysTo_1 rfl hl (by decide) rfl (fun ls hl => ?_)
  refine lv_iconst (v := (nI (0))) hx hb dX2_waysTo_2 (by decide) ?_
  refine lv_istore (lv' := [(4, .int (nI (0))), (2, .long (lN (0))), (0, .ref (g.2.2 19)), (1, .int (nI (vocable)))]) hx hb dX2_waysTo_3 hl (by decide) rfl (fun ls hl => ?_)
  have lp_5 : ∀ (n : Nat) (i : Nat), (i ≤ 4) → 4 - i < n → ∀ (ls : Array Slot), lv_has ls 5 [(0, .ref (g.2.2 19)), (1, .int (nI (vocable))), (2, .long (lN (wto nxt sorts w vocable i))), (4, .int (nI (i)))] → W p l e (headSpec wsX2_waysTo ({ frames := 1, cells := 0, slots := 0, locals := 22 })).room s m (([.ref (g.2.2 19), .int (nI (vocable))] : List Value).toArray) below meth c s.heap [] 0 0 (MQ below (ro_Q (.long (lN (wto nxt sorts w vocable 4)))) (([.ref (g.2.2 19), .int (nI (vocable))] : List Value).toArray) s 0 0 (fun _ => False)) (F0 m 5 ls []) := by
    intro n
    induction n with
    | zero => intro i hi hm; exact absurd hm (Nat.not_lt_zero _)
    | succ n ih_5 =>
      intro i hi hm_5 ls hl
      refine lv_iload hx hb dX2_waysTo_5 (lv_at hl 3 rfl) ?_
      refine lv_iconst (v := (nI (4))) hx hb dX2_waysTo_7 (by decide) ?_
      refine lv_icmp_ge (tgt := 40) hx hb dX2_waysTo_8 (by decide) (fun c_8 => ?_) (fun c_8 => ?_)
      · have c_8 := (cv_le_nn (by omega) (by omega)).mp c_8
        refine lv_lload_n hx hb dX2_waysTo_40 rfl (lv_at hl 2 rfl) ?_
        exact ro_lret hx hb hr hlocks (by rw [show 4 = i by omega]) dX2_waysTo_41
      · have c_8 := (not_congr (cv_le_nn (by omega) (by omega))).mp c_8
        refine lv_aload_n hx hb dX2_waysTo_11 rfl (lv_at hl 0 rfl) ?_
        refine an_get (ci := 2) (v := .ref (g.2.2 7)) (C := RX2) (T := TX2) (N := 11) hx hb hts iw_X2_waysTo_X2 hown hK hP 19 rfl rfl 1 (by decide) (hts _ fl_X2_waysTo_32) rfl dX2_waysTo_12 ?_
        refine lv_iload hx hb dX2_waysTo_15 (lv_at hl 3 rfl) ?_
        refine lv_iload_n hx hb dX2_waysTo_17 rfl (lv_at hl 1 rfl) ?_
        refine ro_call (va_runV (As := [.int (nI (i)), .int (nI (vocable))]) (rest := []) ⟨hx, hb, hml, hown, hts⟩ (c_X4_mayCome l (g := g) (asked := asked) (values := values) (bytes := bytes) (starts := starts) (ends := ends) (length := length) (parts := parts) (texts := texts) (lengths := lengths) (feet := feet) (sorts := sorts) (nxt := nxt) (size := size) (sums := sums) (oneSums := oneSums) (otherSums := otherSums) (byFeet := byFeet) (kept := kept) (over := over) (rcount := rcount) (rcust := rcust) (ssums := ssums) (ways := ways) (nextWays := nextWays) (reached := reached) (nextReached := nextReached) (found := found) (least := least) (greatest := greatest) (i) (vocable) (by omega) hv) (cwV 2 hts gX2_waysTo_X4_mayCome rfl rfl rfl (by decide +kernel) ⟨Nat.le_of_ble_eq_true rfl, Nat.le_of_ble_eq_true rfl⟩) (pre_V pW_bl (va_recv hK hP (ci := 4) (q0 := 7) rfl rfl) (fun U hU hW => pW_of hP hK hN hU hW)) rfl rfl hl.1 rfl (lv_room (Nat.le_of_ble_eq_true rfl)) dX2_waysTo_18 ⟨Nat.zero_le _, Nat.zero_le _⟩) ?_
        refine lv_if_eq (tgt := 34) hx hb dX2_waysTo_21 (by decide) (fun c_21 => ?_) (fun c_21 => ?_)
        · have c_21 := if_n c_21
          refine lv_iinc (v := (nI (i + 1))) (lv' := [(4, .int (nI (i + 1))), (0, .ref (g.2.2 19)), (1, .int (nI (vocable))), (2, .long (lN (wto nxt sorts w vocable i)))]) hx hb dX2_waysTo_34 hl (k := 3) rfl (nI_add _ 1) (by decide) rfl (fun ls hl => ?_)
          refine lv_goto (tgt := 5) hx hb dX2_waysTo_37 (by decide) ?_
          rw [wto_n c_21] at hl
          exact ih_5 (i + 1) (by omega) (by omega) ls (lv_sub hl [1, 2, 3, 0] rfl)
        · have c_21 := if_p c_21
          refine lv_lload_n hx hb dX2_waysTo_24 rfl (lv_at hl 2 rfl) ?_
          refine lv_aload_n hx hb dX2_waysTo_25 rfl (lv_at hl 0 rfl) ?_
          refine an_get (ci := 2) (v := .ref (g.2.2 21)) (C := RX2) (T := TX2) (N := 11) hx hb hts iw_X2_waysTo_X2 hown hK hP 19 rfl rfl 4 (by decide) (hts _ fl_X2_waysTo_15) rfl dX2_waysTo_26 ?_
          refine lv_iload hx hb dX2_waysTo_29 (lv_at hl 3 rfl) ?_
          refine an_lald (f := ways) hx hb hK hP 21 1 rfl rfl (by decide) (by omega) dX2_waysTo_31 ?_
          refine ln_tol (y := (lN (w i))) (hw i (by omega)) ?_
          refine ln_ladd hx hb dX2_waysTo_32 ?_
          refine lv_lstore_n (lv' := [(2, .long (lN ((wto nxt sorts w vocable i) + (w i)))), (0, .ref (g.2.2 19)), (1, .int (nI (vocable))), (4, .int (nI (i)))]) hx hb dX2_waysTo_33 rfl hl (by decide) rfl (fun ls hl => ?_)
          refine lv_iinc (v := (nI (i + 1))) (lv' := [(4, .int (nI (i + 1))), (2, .long (lN ((wto nxt sorts w vocable i) + (w i)))), (0, .ref (g.2.2 19)), (1, .int (nI (vocable)))]) hx hb dX2_waysTo_34 hl (k := 3) rfl (nI_add _ 1) (by decide) rfl (fun ls hl => ?_)
          refine lv_goto (tgt := 5) hx hb dX2_waysTo_37 (by decide) ?_
          rw [wto_y c_21] at hl
          exact ih_5 (i + 1) (by omega) (by omega) ls (lv_sub hl [2, 3, 1, 0] rfl)
  exact lp_5 (4 - (0) + 1) 0 (Nat.zero_le _) (Nat.lt_succ_self _) ls (lv_sub hl [2, 3, 1, 0] rfl)
theorem iw_X3_stepOfFeet_X3 : ∀ w ∈ u_ws RX3 TX3 10, w ∈ wsX3_stepOfFeet := by decide +kernel
theorem iw_X3_stepOfFeet_X4 : ∀ w ∈ u_ws RX4 TX4 6, w ∈ wsX3_stepOfFeet := by decide +kernel
theorem fl_X3_stepOfFeet_21 : Cond.fieldLink RX3 21 (TX3 5).1 (TX3 5).2.1 (TX3 5).2.2.1 ∈ wsX3_stepOfFeet := by decide +kernel
theorem fl_X3_stepOfFeet_32 : Cond.fieldLink RX3 32 (TX3 0).1 (TX3 0).2.1 (TX3 0).2.2.1 ∈ wsX3_stepOfFeet := by decide +kernel
theorem fl_X3_stepOfFeet_44 : Cond.fieldLink RX3 44 (TX4 5).1 (TX4 5).2.1 (TX4 5).2.2.1 ∈ wsX3_stepOfFeet := by decide +kernel
theorem fl_X3_stepOfFeet_50 : Cond.fieldLink RX3 50 (TX4 2).1 (TX4 2).2.1 (TX4 2).2.2.1 ∈ wsX3_stepOfFeet := by decide +kernel
theorem fl_X3_stepOfFeet_57 : Cond.fieldLink RX3 57 (TX4 3).1 (TX4 3).2.1 (TX4 3).2.2.1 ∈ wsX3_stepOfFeet := by decide +kernel
set_option maxHeartbeats 200000 in
set_option maxRecDepth 100000 in
theorem c_X3_stepOfFeet (l : Launch) {g : GW} {asked : Int64} {values : Nat → Int32} {bytes : Nat → Int32} {starts : Nat → Int32} {ends : Nat → Int32} {length : Int32} {parts : Int32} {texts : Nat → Int32} {lengths : Nat → Int32} {feet : Nat → Int32} {sorts : Nat → Int32} {nxt : Nat → Int32} {nv : Nat} {sums : Nat → Int32} {oneSums : Nat → Int32} {otherSums : Nat → Int32} {byFeet : Nat → Int64} {kept : Nat → Int64} {over : Int32} {rcount : Int32} {rcust : Int32} {ssums : Nat → Int32} {ways : Nat → Int64} {nextWays : Nat → Int64} {reached : Nat → Int64} {nextReached : Nat → Int64} {found : Int32} {least : Int32} {greatest : Int32} (ft : Nat) (behind : Nat) (w : Nat → Nat → Nat) (hft : ft ≤ 8) (hbe : behind < 4) (hB : ∀ f s, f < ft → s < 4 → byFeet (f * 4 + s) = lN (w f s)) (hnv : nv ≤ 10) (hfe : okV feet nv 1 3) (hso : okV sorts nv 0 2) : Met l yX3_stepOfFeet wsX3_stepOfFeet ({ frames := 1, cells := 0, slots := 0, locals := 22 }) (va_Pc ([.ref (g.2.2 13), .int (nI (ft)), .int (nI (behind))]) (pW g (wX g asked values bytes starts ends length parts texts lengths feet sorts nxt (nI (nv)) sums oneSums otherSums byFeet kept over rcount rcust ssums ways nextWays reached nextReached found least greatest))) (ro_Q (.long (lN (stq feet sorts nxt w ft behind nv)))) 0 0 (fun _ => False) := by
  refine Met.ofW (cc := cX3_stepOfFeet) (maxL := 6) (ret := (some .long)) (by decide) rfl ?_
  intro p e s m args below meth c s₁ B hml hv
  obtain ⟨rfl, hP, hK, hN⟩ := hv
  have hx := B.exec
  have hb := B.bytes
  have hr := B.returns
  have hts := atoms_spec (ws := wsX3_stepOfFeet) B.pre
  have hown : s.vm.findClass RX3 = some m.cls := findClass_of_methodNamed B.named
  have hlocks := B.notSynchronized
  have hl := lv_entry ([.ref (g.2.2 13), .int (nI (ft)), .int (nI (behind))]) (n := 6) (Nat.le_of_ble_eq_true rfl)
  rw [lg_entry_eq]
  generalize (lg_sl ([.ref (g.2.2 13), .int (nI (ft)), .int (nI (behind))]) ++ List.replicate (6 - (lg_sl ([.ref (g.2.2 13), .int (nI (ft)), .int (nI (behind))])).length) Slot.unset).toArray = ls at hl ⊢
  have hl : lv_has ls 6 [(0, .ref (g.2.2 13)), (1, .int (nI (ft))), (2, .int (nI (behind)))] := hl
  refine lv_lconst (v := (lN (0))) hx hb dX3_stepOfFeet_0 (by decide) ?_
  refine lv_lstore_n (lv' := [(3, .long (lN (0))), (0, .ref (g.2.2 13)), (1, .int (nI (ft))), (2, .int (nI (behind)))]) hx hb dX3_stepOfFeet_1 rfl hl (by decide) rfl (fun ls hl => ?_)
  refine lv_iconst (v := (nI (0))) hx hb dX3_stepOfFeet_2 (by decide) ?_
  refine lv_istore (lv' := [(5, .int (nI (0))), (3, .long (lN (0))), (0, .ref (g.2.2 13)), (1, .int (nI (ft))), (2, .int (nI (behind)))]) hx hb dX3_stepOfFeet_3 hl (by decide) rfl (fun ls hl => ?_)
  have lp_5 : ∀ (n : Nat) (i : Nat), (i ≤ nv) → nv - i < n → ∀ (ls : Array Slot), lv_has ls 6 [(0, .ref (g.2.2 13)), (1, .int (nI (ft))), (2, .int (nI (behind))), (3, .long (lN (stq feet sorts nxt w ft behind i))), (5, .int (nI (i)))] → W p l e (headSpec wsX3_stepOfFeet ({ frames := 1, cells := 0, slots := 0, locals := 22 })).room s m (([.ref (g.2.2 13), .int (nI (ft)), .int (nI (behind))] : List Value).toArray) below meth c s.heap [] 0 0 (MQ below (ro_Q (.long (lN (stq feet sorts nxt w ft behind nv)))) (([.ref (g.2.2 13), .int (nI (ft)), .int (nI (behind))] : List Value).toArray) s 0 0 (fun _ => False)) (F0 m 5 ls []) := by
    intro n
    induction n with
    | zero => intro i hi hm; exact absurd hm (Nat.not_lt_zero _)
    | succ n ih_5 =>
      intro i hi hm_5 ls hl
      refine lv_iload hx hb dX3_stepOfFeet_5 (lv_at hl 4 rfl) ?_
      refine lv_aload_n hx hb dX3_stepOfFeet_7 rfl (lv_at hl 0 rfl) ?_
      refine an_get (ci := 3) (v := .ref (g.2.2 7)) (C := RX3) (T := TX3) (N := 10) hx hb hts iw_X3_stepOfFeet_X3 hown hK hP 13 rfl rfl 0 (by decide) (hts _ fl_X3_stepOfFeet_32) rfl dX3_stepOfFeet_8 ?_
      refine an_get (ci := 4) (v := .int (nI (nv))) (C := RX4) (T := TX4) (N := 6) hx hb hts iw_X3_stepOfFeet_X4 hown hK hP 7 rfl rfl 5 (by decide) (hts _ fl_X3_stepOfFeet_44) rfl dX3_stepOfFeet_11 ?_
      refine lv_icmp_ge (tgt := 83) hx hb dX3_stepOfFeet_14 (by decide) (fun c_14 => ?_) (fun c_14 => ?_)
      · have c_14 := (cv_le_nn (by omega) (by omega)).mp c_14
        refine lv_lload_n hx hb dX3_stepOfFeet_83 rfl (lv_at hl 3 rfl) ?_
        exact ro_lret hx hb hr hlocks (by rw [show nv = i by omega]) dX3_stepOfFeet_84
      · have c_14 := (not_congr (cv_le_nn (by omega) (by omega))).mp c_14
        refine lv_aload_n hx hb dX3_stepOfFeet_17 rfl (lv_at hl 0 rfl) ?_
        refine an_get (ci := 3) (v := .ref (g.2.2 7)) (C := RX3) (T := TX3) (N := 10) hx hb hts iw_X3_stepOfFeet_X3 hown hK hP 13 rfl rfl 0 (by decide) (hts _ fl_X3_stepOfFeet_32) rfl dX3_stepOfFeet_18 ?_
        refine an_get (ci := 4) (v := .ref (g.2.2 10)) (C := RX4) (T := TX4) (N := 6) hx hb hts iw_X3_stepOfFeet_X4 hown hK hP 7 rfl rfl 2 (by decide) (hts _ fl_X3_stepOfFeet_50) rfl dX3_stepOfFeet_21 ?_
        refine lv_iload hx hb dX3_stepOfFeet_24 (lv_at hl 4 rfl) ?_
        have hf9 := hfe i (by omega)
        have hs9 := hso i (by omega)
        refine an_iald (f := feet) hx hb hK hP 10 0 rfl rfl (by decide) (by omega) dX3_stepOfFeet_26 ?_
        refine ln_toi (y := (nI (tn (feet i)))) (hf9.1) ?_
        refine lv_iload_n hx hb dX3_stepOfFeet_27 rfl (lv_at hl 1 rfl) ?_
        refine lv_icmp_gt (tgt := 77) hx hb dX3_stepOfFeet_28 (by decide) (fun c_28 => ?_) (fun c_28 => ?_)
        · have c_28 := (cv_lt_nn (by omega) (by omega)).mp c_28
          refine lv_iinc (v := (nI (i + 1))) (lv' := [(5, .int (nI (i + 1))), (0, .ref (g.2.2 13)), (1, .int (nI (ft))), (2, .int (nI (behind))), (3, .long (lN (stq feet sorts nxt w ft behind i)))]) hx hb dX3_stepOfFeet_77 hl (k := 4) rfl (nI_add _ 1) (by decide) rfl (fun ls hl => ?_)
          refine lv_goto (tgt := 5) hx hb dX3_stepOfFeet_80 (by decide) ?_
          rw [stq_n (fun z => absurd z.1 (by omega))] at hl
          exact ih_5 (i + 1) (by omega) (by omega) ls (lv_sub hl [1, 2, 3, 4, 0] rfl)
        · have c_28 := (not_congr (cv_lt_nn (by omega) (by omega))).mp c_28
          refine lv_aload_n hx hb dX3_stepOfFeet_31 rfl (lv_at hl 0 rfl) ?_
          refine an_get (ci := 3) (v := .ref (g.2.2 7)) (C := RX3) (T := TX3) (N := 10) hx hb hts iw_X3_stepOfFeet_X3 hown hK hP 13 rfl rfl 0 (by decide) (hts _ fl_X3_stepOfFeet_32) rfl dX3_stepOfFeet_32 ?_
          refine lv_iload_n hx hb dX3_stepOfFeet_35 rfl (lv_at hl 2 rfl) ?_
          refine lv_iload hx hb dX3_stepOfFeet_36 (lv_at hl 4 rfl) ?_
          refine ro_call (va_runV (As := [.int (nI (behind)), .int (nI (i))]) (rest := []) ⟨hx, hb, hml, hown, hts⟩ (c_X4_mayCome l (g := g) (asked := asked) (values := values) (bytes := bytes) (starts := starts) (ends := ends) (length := length) (parts := parts) (texts := texts) (lengths := lengths) (feet := feet) (sorts := sorts) (nxt := nxt) (size := nI (nv)) (sums := sums) (oneSums := oneSums) (otherSums := otherSums) (byFeet := byFeet) (kept := kept) (over := over) (rcount := rcount) (rcust := rcust) (ssums := ssums) (ways := ways) (nextWays := nextWays) (reached := reached) (nextReached := nextReached) (found := found) (least := least) (greatest := greatest) (behind) (i) hbe (by omega)) (cwV 2 hts gX3_stepOfFeet_X4_mayCome rfl rfl rfl (by decide +kernel) ⟨Nat.le_of_ble_eq_true rfl, Nat.le_of_ble_eq_true rfl⟩) (pre_V pW_bl (va_recv hK hP (ci := 4) (q0 := 7) rfl rfl) (fun U hU hW => pW_of hP hK hN hU hW)) rfl rfl hl.1 rfl (lv_room (Nat.le_of_ble_eq_true rfl)) dX3_stepOfFeet_38 ⟨Nat.zero_le _, Nat.zero_le _⟩) ?_
          refine lv_if_eq (tgt := 77) hx hb dX3_stepOfFeet_41 (by decide) (fun c_41 => ?_) (fun c_41 => ?_)
          · have c_41 := if_n c_41
            refine lv_iinc (v := (nI (i + 1))) (lv' := [(5, .int (nI (i + 1))), (0, .ref (g.2.2 13)), (1, .int (nI (ft))), (2, .int (nI (behind))), (3, .long (lN (stq feet sorts nxt w ft behind i)))]) hx hb dX3_stepOfFeet_77 hl (k := 4) rfl (nI_add _ 1) (by decide) rfl (fun ls hl => ?_)
            refine lv_goto (tgt := 5) hx hb dX3_stepOfFeet_80 (by decide) ?_
            rw [stq_n (fun z => absurd z.2 c_41)] at hl
            exact ih_5 (i + 1) (by omega) (by omega) ls (lv_sub hl [1, 2, 3, 4, 0] rfl)
          · have c_41 := if_p c_41
            refine lv_lload_n hx hb dX3_stepOfFeet_44 rfl (lv_at hl 3 rfl) ?_
            refine lv_aload_n hx hb dX3_stepOfFeet_45 rfl (lv_at hl 0 rfl) ?_
            refine an_get (ci := 3) (v := .ref (g.2.2 17)) (C := RX3) (T := TX3) (N := 10) hx hb hts iw_X3_stepOfFeet_X3 hown hK hP 13 rfl rfl 5 (by decide) (hts _ fl_X3_stepOfFeet_21) rfl dX3_stepOfFeet_46 ?_
            refine lv_iload_n hx hb dX3_stepOfFeet_49 rfl (lv_at hl 1 rfl) ?_
            refine lv_aload_n hx hb dX3_stepOfFeet_50 rfl (lv_at hl 0 rfl) ?_
            refine an_get (ci := 3) (v := .ref (g.2.2 7)) (C := RX3) (T := TX3) (N := 10) hx hb hts iw_X3_stepOfFeet_X3 hown hK hP 13 rfl rfl 0 (by decide) (hts _ fl_X3_stepOfFeet_32) rfl dX3_stepOfFeet_51 ?_
            refine an_get (ci := 4) (v := .ref (g.2.2 10)) (C := RX4) (T := TX4) (N := 6) hx hb hts iw_X3_stepOfFeet_X4 hown hK hP 7 rfl rfl 2 (by decide) (hts _ fl_X3_stepOfFeet_50) rfl dX3_stepOfFeet_54 ?_
            refine lv_iload hx hb dX3_stepOfFeet_57 (lv_at hl 4 rfl) ?_
            refine an_iald (f := feet) hx hb hK hP 10 0 rfl rfl (by decide) (by omega) dX3_stepOfFeet_59 ?_
            refine ln_toi (y := (nI (tn (feet i)))) (hf9.1) ?_
            refine ln_isub hx hb (by omega) dX3_stepOfFeet_60 ?_
            refine lv_iconst (v := (nI (4))) hx hb dX3_stepOfFeet_61 (by decide) ?_
            refine ln_imul hx hb dX3_stepOfFeet_62 ?_
            refine lv_aload_n hx hb dX3_stepOfFeet_63 rfl (lv_at hl 0 rfl) ?_
            refine an_get (ci := 3) (v := .ref (g.2.2 7)) (C := RX3) (T := TX3) (N := 10) hx hb hts iw_X3_stepOfFeet_X3 hown hK hP 13 rfl rfl 0 (by decide) (hts _ fl_X3_stepOfFeet_32) rfl dX3_stepOfFeet_64 ?_
            refine an_get (ci := 4) (v := .ref (g.2.2 11)) (C := RX4) (T := TX4) (N := 6) hx hb hts iw_X3_stepOfFeet_X4 hown hK hP 7 rfl rfl 3 (by decide) (hts _ fl_X3_stepOfFeet_57) rfl dX3_stepOfFeet_67 ?_
            refine lv_iload hx hb dX3_stepOfFeet_70 (lv_at hl 4 rfl) ?_
            refine an_iald (f := sorts) hx hb hK hP 11 0 rfl rfl (by decide) (by omega) dX3_stepOfFeet_72 ?_
            refine ln_toi (y := (nI (tn (sorts i)))) (hs9.1) ?_
            refine ln_iadd hx hb dX3_stepOfFeet_73 ?_
            refine an_lald (f := byFeet) hx hb hK hP 17 1 rfl rfl (by decide) (by omega) dX3_stepOfFeet_74 ?_
            refine ln_tol (y := (lN (w (ft - tn (feet i)) (tn (sorts i))))) (hB _ _ (by omega) (by omega)) ?_
            refine ln_ladd hx hb dX3_stepOfFeet_75 ?_
            refine lv_lstore_n (lv' := [(3, .long (lN ((stq feet sorts nxt w ft behind i) + (w (ft - tn (feet i)) (tn (sorts i)))))), (0, .ref (g.2.2 13)), (1, .int (nI (ft))), (2, .int (nI (behind))), (5, .int (nI (i)))]) hx hb dX3_stepOfFeet_76 rfl hl (by decide) rfl (fun ls hl => ?_)
            refine lv_iinc (v := (nI (i + 1))) (lv' := [(5, .int (nI (i + 1))), (3, .long (lN ((stq feet sorts nxt w ft behind i) + (w (ft - tn (feet i)) (tn (sorts i)))))), (0, .ref (g.2.2 13)), (1, .int (nI (ft))), (2, .int (nI (behind)))]) hx hb dX3_stepOfFeet_77 hl (k := 4) rfl (nI_add _ 1) (by decide) rfl (fun ls hl => ?_)
            refine lv_goto (tgt := 5) hx hb dX3_stepOfFeet_80 (by decide) ?_
            rw [stq_y (by omega) c_41] at hl
            exact ih_5 (i + 1) (by omega) (by omega) ls (lv_sub hl [2, 3, 4, 1, 0] rfl)
  exact lp_5 (nv - (0) + 1) 0 (Nat.zero_le _) (Nat.lt_succ_self _) ls (lv_sub hl [2, 3, 4, 1, 0] rfl)
theorem iw_X3_ofFeet_X3 : ∀ w ∈ u_ws RX3 TX3 10, w ∈ wsX3_ofFeet := by decide +kernel
theorem fl_X3_ofFeet_21 : Cond.fieldLink RX3 21 (TX3 5).1 (TX3 5).2.1 (TX3 5).2.2.1 ∈ wsX3_ofFeet := by decide +kernel
set_option maxHeartbeats 200000 in
set_option maxRecDepth 100000 in
theorem c_X3_ofFeet (l : Launch) {g : GW} {asked : Int64} {values : Nat → Int32} {bytes : Nat → Int32} {starts : Nat → Int32} {ends : Nat → Int32} {length : Int32} {parts : Int32} {texts : Nat → Int32} {lengths : Nat → Int32} {feet : Nat → Int32} {sorts : Nat → Int32} {nxt : Nat → Int32} {nv : Nat} {sums : Nat → Int32} {oneSums : Nat → Int32} {otherSums : Nat → Int32} {byFeet : Nat → Int64} {kept : Nat → Int64} {over : Int32} {rcount : Int32} {rcust : Int32} {ssums : Nat → Int32} {ways : Nat → Int64} {nextWays : Nat → Int64} {reached : Nat → Int64} {nextReached : Nat → Int64} {found : Int32} {least : Int32} {greatest : Int32} {sz : Nat} (ft : Nat) (hft : ft ≤ 8) (hnv : nv ≤ 10) (hfe : okV feet nv 1 3) (hso : okV sorts nv 0 2) (hd : dW 25 g.2.2) : Met l yX3_ofFeet wsX3_ofFeet ({ frames := 2, cells := 0, slots := 0, locals := 47 }) (va_Pc ([.ref (g.2.2 13), .int (nI (ft))]) (qW g (wX g asked values bytes starts ends length parts texts lengths feet sorts nxt (nI (nv)) sums oneSums otherSums byFeet kept over rcount rcust ssums ways nextWays reached nextReached found least greatest) sz)) (va_Ql (fun (r : Int64) (z : (Nat → Int64)) => r = lN (mwy feet sorts nxt nv ft 3)) (fun (z : (Nat → Int64)) (t : State) => va_P g.1 vwCl (wX g asked values bytes starts ends length parts texts lengths feet sorts nxt (nI (nv)) sums oneSums otherSums z kept over rcount rcust ssums ways nextWays reached nextReached found least greatest) t.heap) (aW 25 g.2.2 sz)) 0 0 (aW 25 g.2.2 sz) := by
  refine Met.ofW (cc := cX3_ofFeet) (maxL := 4) (ret := (some .long)) (by decide) rfl ?_
  intro p e s m args below meth c s₁ B hml hv
  obtain ⟨rfl, hsz9, hP, hK, hN⟩ := hv
  subst hsz9
  have hx := B.exec
  have hb := B.bytes
  have hr := B.returns
  have hts := atoms_spec (ws := wsX3_ofFeet) B.pre
  have hown : s.vm.findClass RX3 = some m.cls := findClass_of_methodNamed B.named
  have hlocks := B.notSynchronized
  have hS : va_S (aW 25 g.2.2 s.heap.size) s.heap s.heap [] := va_S.rf
  have hl := lv_entry ([.ref (g.2.2 13), .int (nI (ft))]) (n := 4) (Nat.le_of_ble_eq_true rfl)
  rw [lg_entry_eq]
  generalize (lg_sl ([.ref (g.2.2 13), .int (nI (ft))]) ++ List.replicate (4 - (lg_sl ([.ref (g.2.2 13), .int (nI (ft))])).length) Slot.unset).toArray = ls at hl ⊢
  have hl : lv_has ls 4 [(0, .ref (g.2.2 13)), (1, .int (nI (ft)))] := hl
  refine lv_iconst (v := (nI (0))) hx hb dX3_ofFeet_0 (by decide) ?_
  refine lv_istore_n (lv' := [(2, .int (nI (0))), (0, .ref (g.2.2 13)), (1, .int (nI (ft)))]) hx hb dX3_ofFeet_1 rfl hl (by decide) rfl (fun ls hl => ?_)
  have lp_2 : ∀ (n : Nat) (i : Nat) (u : Nat → Int64), (i ≤ 4) → (∀ s, s < i → u s = lN 1) → 4 - i < n → ∀ (H : Heap) (locs : List Loc), va_P g.1 vwCl (wX g asked values bytes starts ends length parts texts lengths feet sorts nxt (nI (nv)) sums oneSums otherSums u kept over rcount rcust ssums ways nextWays reached nextReached found least greatest) H → va_S (aW 25 g.2.2 s.heap.size) s.heap H locs → ∀ (ls : Array Slot), lv_has ls 4 [(0, .ref (g.2.2 13)), (1, .int (nI (ft))), (2, .int (nI (i)))] → W p l e (headSpec wsX3_ofFeet ({ frames := 2, cells := 0, slots := 0, locals := 47 })).room s m (([.ref (g.2.2 13), .int (nI (ft))] : List Value).toArray) below meth c H locs 0 0 (MQ below (va_Ql (fun (r : Int64) (z : (Nat → Int64)) => r = lN (mwy feet sorts nxt nv ft 3)) (fun (z : (Nat → Int64)) (t : State) => va_P g.1 vwCl (wX g asked values bytes starts ends length parts texts lengths feet sorts nxt (nI (nv)) sums oneSums otherSums z kept over rcount rcust ssums ways nextWays reached nextReached found least greatest) t.heap) (aW 25 g.2.2 s.heap.size)) (([.ref (g.2.2 13), .int (nI (ft))] : List Value).toArray) s 0 0 (aW 25 g.2.2 s.heap.size)) (F0 m 2 ls []) := by
    intro n
    induction n with
    | zero => intro i u hi hu hm; exact absurd hm (Nat.not_lt_zero _)
    | succ n ih_2 =>
      intro i u hi hu hm_2 H locs hP hS ls hl
      refine lv_iload_n hx hb dX3_ofFeet_2 rfl (lv_at hl 2 rfl) ?_
      refine lv_iconst (v := (nI (4))) hx hb dX3_ofFeet_3 (by decide) ?_
      refine lv_icmp_ge (tgt := 20) hx hb dX3_ofFeet_4 (by decide) (fun c_4 => ?_) (fun c_4 => ?_)
      · have c_4 := (cv_le_nn (by omega) (by omega)).mp c_4
        refine lv_iconst (v := (nI (1))) hx hb dX3_ofFeet_20 (by decide) ?_
        refine lv_istore_n (lv' := [(2, .int (nI (1))), (0, .ref (g.2.2 13)), (1, .int (nI (ft)))]) hx hb dX3_ofFeet_21 rfl hl (by decide) rfl (fun ls hl => ?_)
        have lp_22 : ∀ (n : Nat) (f : Nat) (b : Nat → Int64), (1 ≤ f) → (f ≤ ft + 1) → (∀ f2 s, f2 < f → s < 4 → b (f2 * 4 + s) = lN (mwy feet sorts nxt nv f2 s)) → ft + 1 - f < n → ∀ (H : Heap) (locs : List Loc), va_P g.1 vwCl (wX g asked values bytes starts ends length parts texts lengths feet sorts nxt (nI (nv)) sums oneSums otherSums b kept over rcount rcust ssums ways nextWays reached nextReached found least greatest) H → va_S (aW 25 g.2.2 s.heap.size) s.heap H locs → ∀ (ls : Array Slot), lv_has ls 4 [(0, .ref (g.2.2 13)), (1, .int (nI (ft))), (2, .int (nI (f)))] → W p l e (headSpec wsX3_ofFeet ({ frames := 2, cells := 0, slots := 0, locals := 47 })).room s m (([.ref (g.2.2 13), .int (nI (ft))] : List Value).toArray) below meth c H locs 0 0 (MQ below (va_Ql (fun (r : Int64) (z : (Nat → Int64)) => r = lN (mwy feet sorts nxt nv ft 3)) (fun (z : (Nat → Int64)) (t : State) => va_P g.1 vwCl (wX g asked values bytes starts ends length parts texts lengths feet sorts nxt (nI (nv)) sums oneSums otherSums z kept over rcount rcust ssums ways nextWays reached nextReached found least greatest) t.heap) (aW 25 g.2.2 s.heap.size)) (([.ref (g.2.2 13), .int (nI (ft))] : List Value).toArray) s 0 0 (aW 25 g.2.2 s.heap.size)) (F0 m 22 ls []) := by
          intro n
          induction n with
          | zero => intro f b hf1 hf2 hb2 hm; exact absurd hm (Nat.not_lt_zero _)
          | succ n ih_22 =>
            intro f b hf1 hf2 hb2 hm_22 H locs hP hS ls hl
            refine lv_iload_n hx hb dX3_ofFeet_22 rfl (lv_at hl 2 rfl) ?_
            refine lv_iload_n hx hb dX3_ofFeet_23 rfl (lv_at hl 1 rfl) ?_
            refine lv_icmp_gt (tgt := 62) hx hb dX3_ofFeet_24 (by decide) (fun c_24 => ?_) (fun c_24 => ?_)
            · have c_24 := (cv_lt_nn (by omega) (by omega)).mp c_24
              refine lv_aload_n hx hb dX3_ofFeet_62 rfl (lv_at hl 0 rfl) ?_
              refine an_get (ci := 3) (v := .ref (g.2.2 17)) (C := RX3) (T := TX3) (N := 10) hx hb hts iw_X3_ofFeet_X3 hown hK hP 13 rfl rfl 5 (by decide) (hts _ fl_X3_ofFeet_21) rfl dX3_ofFeet_63 ?_
              refine lv_iload_n hx hb dX3_ofFeet_66 rfl (lv_at hl 1 rfl) ?_
              refine lv_iconst (v := (nI (4))) hx hb dX3_ofFeet_67 (by decide) ?_
              refine ln_imul hx hb dX3_ofFeet_68 ?_
              refine lv_iconst (v := (nI (3))) hx hb dX3_ofFeet_69 (by decide) ?_
              refine ln_iadd hx hb dX3_ofFeet_70 ?_
              refine an_lald (f := b) hx hb hK hP 17 1 rfl rfl (by decide) (by omega) dX3_ofFeet_71 ?_
              refine ln_tol (y := (lN (mwy feet sorts nxt nv ft 3))) (hb2 ft 3 (by omega) (by omega)) ?_
              exact wr_lret (b) hx hb hr hlocks (rfl) (fun t ht => show va_P g.1 vwCl (wX g asked values bytes starts ends length parts texts lengths feet sorts nxt (nI (nv)) sums oneSums otherSums b kept over rcount rcust ssums ways nextWays reached nextReached found least greatest) t.heap by rw [ht]; exact hP) hS dX3_ofFeet_72
            · have c_24 := (not_congr (cv_lt_nn (by omega) (by omega))).mp c_24
              refine lv_iconst (v := (nI (0))) hx hb dX3_ofFeet_27 (by decide) ?_
              refine lv_istore_n (lv' := [(3, .int (nI (0))), (0, .ref (g.2.2 13)), (1, .int (nI (ft))), (2, .int (nI (f)))]) hx hb dX3_ofFeet_28 rfl hl (by decide) rfl (fun ls hl => ?_)
              have lp_29 : ∀ (n : Nat) (s2 : Nat) (b2 : Nat → Int64), (s2 ≤ 4) → (∀ f2 s, f2 < f → s < 4 → b2 (f2 * 4 + s) = lN (mwy feet sorts nxt nv f2 s)) → (∀ s, s < s2 → b2 (f * 4 + s) = lN (mwy feet sorts nxt nv f s)) → 4 - s2 < n → ∀ (H : Heap) (locs : List Loc), va_P g.1 vwCl (wX g asked values bytes starts ends length parts texts lengths feet sorts nxt (nI (nv)) sums oneSums otherSums b2 kept over rcount rcust ssums ways nextWays reached nextReached found least greatest) H → va_S (aW 25 g.2.2 s.heap.size) s.heap H locs → ∀ (ls : Array Slot), lv_has ls 4 [(0, .ref (g.2.2 13)), (1, .int (nI (ft))), (2, .int (nI (f))), (3, .int (nI (s2)))] → W p l e (headSpec wsX3_ofFeet ({ frames := 2, cells := 0, slots := 0, locals := 47 })).room s m (([.ref (g.2.2 13), .int (nI (ft))] : List Value).toArray) below meth c H locs 0 0 (MQ below (va_Ql (fun (r : Int64) (z : (Nat → Int64)) => r = lN (mwy feet sorts nxt nv ft 3)) (fun (z : (Nat → Int64)) (t : State) => va_P g.1 vwCl (wX g asked values bytes starts ends length parts texts lengths feet sorts nxt (nI (nv)) sums oneSums otherSums z kept over rcount rcust ssums ways nextWays reached nextReached found least greatest) t.heap) (aW 25 g.2.2 s.heap.size)) (([.ref (g.2.2 13), .int (nI (ft))] : List Value).toArray) s 0 0 (aW 25 g.2.2 s.heap.size)) (F0 m 29 ls []) := by
                intro n
                induction n with
                | zero => intro s2 b2 hs hb3 hb4 hm; exact absurd hm (Nat.not_lt_zero _)
                | succ n ih_29 =>
                  intro s2 b2 hs hb3 hb4 hm_29 H locs hP hS ls hl
                  refine lv_iload_n hx hb dX3_ofFeet_29 rfl (lv_at hl 3 rfl) ?_
                  refine lv_iconst (v := (nI (4))) hx hb dX3_ofFeet_30 (by decide) ?_
                  refine lv_icmp_ge (tgt := 56) hx hb dX3_ofFeet_31 (by decide) (fun c_31 => ?_) (fun c_31 => ?_)
                  · have c_31 := (cv_le_nn (by omega) (by omega)).mp c_31
                    refine lv_iinc (v := (nI (f + 1))) (lv' := [(2, .int (nI (f + 1))), (0, .ref (g.2.2 13)), (1, .int (nI (ft))), (3, .int (nI (s2)))]) hx hb dX3_ofFeet_56 hl (k := 2) rfl (nI_add _ 1) (by decide) rfl (fun ls hl => ?_)
                    refine lv_goto (tgt := 22) hx hb dX3_ofFeet_59 (by decide) ?_
                    exact ih_22 (f + 1) b2 (by omega) (by omega) (fun f2 s h1 h2 => by by_cases e : f2 = f; (subst e; exact hb4 s (by omega)); exact hb3 f2 s (by omega) h2) (by omega) _ _ hP hS ls (lv_sub hl [1, 2, 0] rfl)
                  · have c_31 := (not_congr (cv_le_nn (by omega) (by omega))).mp c_31
                    refine lv_aload_n hx hb dX3_ofFeet_34 rfl (lv_at hl 0 rfl) ?_
                    refine an_get (ci := 3) (v := .ref (g.2.2 17)) (C := RX3) (T := TX3) (N := 10) hx hb hts iw_X3_ofFeet_X3 hown hK hP 13 rfl rfl 5 (by decide) (hts _ fl_X3_ofFeet_21) rfl dX3_ofFeet_35 ?_
                    refine lv_iload_n hx hb dX3_ofFeet_38 rfl (lv_at hl 2 rfl) ?_
                    refine lv_iconst (v := (nI (4))) hx hb dX3_ofFeet_39 (by decide) ?_
                    refine ln_imul hx hb dX3_ofFeet_40 ?_
                    refine lv_iload_n hx hb dX3_ofFeet_41 rfl (lv_at hl 3 rfl) ?_
                    refine ln_iadd hx hb dX3_ofFeet_42 ?_
                    refine lv_aload_n hx hb dX3_ofFeet_43 rfl (lv_at hl 0 rfl) ?_
                    refine lv_iload_n hx hb dX3_ofFeet_44 rfl (lv_at hl 2 rfl) ?_
                    refine lv_iload_n hx hb dX3_ofFeet_45 rfl (lv_at hl 3 rfl) ?_
                    refine ro_call (va_runV (As := [.int (nI (f)), .int (nI (s2))]) (rest := [.int (nI ((f * 4) + s2)), .ref (g.2.2 17)]) ⟨hx, hb, hml, hown, hts⟩ (c_X3_stepOfFeet l (g := g) (asked := asked) (values := values) (bytes := bytes) (starts := starts) (ends := ends) (length := length) (parts := parts) (texts := texts) (lengths := lengths) (feet := feet) (sorts := sorts) (nxt := nxt) (nv := nv) (sums := sums) (oneSums := oneSums) (otherSums := otherSums) (byFeet := b2) (kept := kept) (over := over) (rcount := rcount) (rcust := rcust) (ssums := ssums) (ways := ways) (nextWays := nextWays) (reached := reached) (nextReached := nextReached) (found := found) (least := least) (greatest := greatest) (f) (s2) (mwy feet sorts nxt nv) (by omega) (by omega) hb3 hnv hfe hso) (cwV 2 hts gX3_ofFeet_X3_stepOfFeet rfl rfl rfl (by decide +kernel) ⟨Nat.le_of_ble_eq_true rfl, Nat.le_of_ble_eq_true rfl⟩) (pre_V pW_bl (va_recv hK hP (ci := 3) (q0 := 13) rfl rfl) (fun U hU hW => pW_of hP hK hN hU hW)) rfl rfl hl.1 rfl (lv_room (Nat.le_of_ble_eq_true rfl)) dX3_ofFeet_46 ⟨Nat.zero_le _, Nat.zero_le _⟩) ?_
                    refine ln_tol (y := (lN (mwy feet sorts nxt nv f s2))) (congrArg lN (mwy_s hfe hf1)) ?_
                    refine an_last (f := b2) (ws' := (wX g asked values bytes starts ends length parts texts lengths feet sorts nxt (nI (nv)) sums oneSums otherSums (vp_updL (b2) ((f * 4) + s2) (lN (mwy feet sorts nxt nv f s2))) kept over rcount rcust ssums ways nextWays reached nextReached found least greatest)) hx hb hK hP (wX_D hd) hS 17 1 rfl rfl (by decide) (by omega) rfl dX3_ofFeet_49 (fun H locs hP hS => ?_)
                    refine lv_iinc (v := (nI (s2 + 1))) (lv' := [(3, .int (nI (s2 + 1))), (0, .ref (g.2.2 13)), (1, .int (nI (ft))), (2, .int (nI (f)))]) hx hb dX3_ofFeet_50 hl (k := 3) rfl (nI_add _ 1) (by decide) rfl (fun ls hl => ?_)
                    refine lv_goto (tgt := 29) hx hb dX3_ofFeet_53 (by decide) ?_
                    exact ih_29 (s2 + 1) (vp_updL b2 (f * 4 + s2) (lN (mwy feet sorts nxt nv f s2))) (by omega) (fun f2 s h1 h2 => by rw [pk_uLn (by omega)]; exact hb3 f2 s h1 h2) (fun s h => by by_cases e : s = s2; (subst e; exact pk_uLs); rw [pk_uLn (by omega)]; exact hb4 s (by omega)) (by omega) _ _ hP hS ls (lv_sub hl [1, 2, 3, 0] rfl)
              exact lp_29 (4 - (0) + 1) 0 b (Nat.zero_le _) (hb2) (fun s h => absurd h (Nat.not_lt_zero s)) (Nat.lt_succ_self _) _ _ hP hS ls (lv_sub hl [1, 2, 3, 0] rfl)
        exact lp_22 (ft + 1 - (1) + 1) 1 u (Nat.le_refl _) (by omega) (fun f2 s h1 h2 => by rw [show f2 = 0 by omega, show 0 * 4 + s = s by omega, hu s (by omega), mwy_0]) (Nat.lt_succ_self _) _ _ hP hS ls (lv_sub hl [1, 2, 0] rfl)
      · have c_4 := (not_congr (cv_le_nn (by omega) (by omega))).mp c_4
        refine lv_aload_n hx hb dX3_ofFeet_7 rfl (lv_at hl 0 rfl) ?_
        refine an_get (ci := 3) (v := .ref (g.2.2 17)) (C := RX3) (T := TX3) (N := 10) hx hb hts iw_X3_ofFeet_X3 hown hK hP 13 rfl rfl 5 (by decide) (hts _ fl_X3_ofFeet_21) rfl dX3_ofFeet_8 ?_
        refine lv_iload_n hx hb dX3_ofFeet_11 rfl (lv_at hl 2 rfl) ?_
        refine lv_lconst (v := (lN (1))) hx hb dX3_ofFeet_12 (by decide) ?_
        refine an_last (f := u) (ws' := (wX g asked values bytes starts ends length parts texts lengths feet sorts nxt (nI (nv)) sums oneSums otherSums (vp_updL (u) (i) (lN (1))) kept over rcount rcust ssums ways nextWays reached nextReached found least greatest)) hx hb hK hP (wX_D hd) hS 17 1 rfl rfl (by decide) (by omega) rfl dX3_ofFeet_13 (fun H locs hP hS => ?_)
        refine lv_iinc (v := (nI (i + 1))) (lv' := [(2, .int (nI (i + 1))), (0, .ref (g.2.2 13)), (1, .int (nI (ft)))]) hx hb dX3_ofFeet_14 hl (k := 2) rfl (nI_add _ 1) (by decide) rfl (fun ls hl => ?_)
        refine lv_goto (tgt := 2) hx hb dX3_ofFeet_17 (by decide) ?_
        exact ih_2 (i + 1) (vp_updL u i (lN 1)) (by omega) (fillL_s hu) (by omega) _ _ hP hS ls (lv_sub hl [1, 2, 0] rfl)
  exact lp_2 (4 - (0) + 1) 0 byFeet (Nat.zero_le _) (fun k hk => absurd hk (Nat.not_lt_zero k)) (Nat.lt_succ_self _) _ _ hP hS ls (lv_sub hl [1, 2, 0] rfl)
theorem iw_X1_append_X1 : ∀ w ∈ u_ws RX1 TX1 5, w ∈ wsX1_append := by decide +kernel
theorem fl_X1_append_9 : Cond.fieldLink RX1 9 (TX1 0).1 (TX1 0).2.1 (TX1 0).2.2.1 ∈ wsX1_append := by decide +kernel
theorem fl_X1_append_21 : Cond.fieldLink RX1 21 (TX1 3).1 (TX1 3).2.1 (TX1 3).2.2.1 ∈ wsX1_append := by decide +kernel
set_option maxHeartbeats 200000 in
set_option maxRecDepth 100000 in
theorem c_X1_append (l : Launch) {g : GW} {asked : Int64} {values : Nat → Int32} {bytes : Nat → Int32} {starts : Nat → Int32} {ends : Nat → Int32} {L : Nat} {parts : Int32} {texts : Nat → Int32} {lengths : Nat → Int32} {feet : Nat → Int32} {sorts : Nat → Int32} {nxt : Nat → Int32} {size : Int32} {sums : Nat → Int32} {oneSums : Nat → Int32} {otherSums : Nat → Int32} {byFeet : Nat → Int64} {kept : Nat → Int64} {over : Int32} {rcount : Int32} {rcust : Int32} {ssums : Nat → Int32} {ways : Nat → Int64} {nextWays : Nat → Int64} {reached : Nat → Int64} {nextReached : Nat → Int64} {found : Int32} {least : Int32} {greatest : Int32} {sz : Nat} (v : Int64) (k0 : Nat) (h1 : 1 ≤ k0) (h2 : k0 ≤ 8) (h3 : L + k0 ≤ 40) (hd : dW 25 g.2.2) : Met l yX1_append wsX1_append ({ frames := 1, cells := 0, slots := 0, locals := 22 }) (va_Pc ([.ref (g.2.2 3), .long (v), .int (nI (k0))]) (qW g (wX g asked values bytes starts ends (nI (L)) parts texts lengths feet sorts nxt size sums oneSums otherSums byFeet kept over rcount rcust ssums ways nextWays reached nextReached found least greatest) sz)) (va_Qv (fun (z : (Nat → Int32) × (Nat → Int32) × (Nat → Int32) × Int32 × Int32) => z.1 = apb bytes L v k0 k0 ∧ z.2.2.2.1 = nI (L + k0) ∧ z.2.2.2.2 = nI (pn (apb bytes L v k0 k0) (L + k0)) ∧ prow (apb bytes L v k0 k0) (L + k0) z.2.1 z.2.2.1) (fun (z : (Nat → Int32) × (Nat → Int32) × (Nat → Int32) × Int32 × Int32) (t : State) => va_P g.1 vwCl (wX g asked values (z.1) (z.2.1) (z.2.2.1) (z.2.2.2.1) (z.2.2.2.2) texts lengths feet sorts nxt size sums oneSums otherSums byFeet kept over rcount rcust ssums ways nextWays reached nextReached found least greatest) t.heap) (aW 25 g.2.2 sz)) 0 0 (aW 25 g.2.2 sz) := by
  refine Met.ofW (cc := cX1_append) (maxL := 5) (ret := none) (by decide) rfl ?_
  intro p e s m args below meth c s₁ B hml hv
  obtain ⟨rfl, hsz9, hP, hK, hN⟩ := hv
  subst hsz9
  have hx := B.exec
  have hb := B.bytes
  have hr := B.returns
  have hts := atoms_spec (ws := wsX1_append) B.pre
  have hown : s.vm.findClass RX1 = some m.cls := findClass_of_methodNamed B.named
  have hlocks := B.notSynchronized
  have hS : va_S (aW 25 g.2.2 s.heap.size) s.heap s.heap [] := va_S.rf
  have hl := lv_entry ([.ref (g.2.2 3), .long (v), .int (nI (k0))]) (n := 5) (Nat.le_of_ble_eq_true rfl)
  rw [lg_entry_eq]
  generalize (lg_sl ([.ref (g.2.2 3), .long (v), .int (nI (k0))]) ++ List.replicate (5 - (lg_sl ([.ref (g.2.2 3), .long (v), .int (nI (k0))])).length) Slot.unset).toArray = ls at hl ⊢
  have hl : lv_has ls 5 [(0, .ref (g.2.2 3)), (1, .long (v)), (3, .int (nI (k0)))] := hl
  refine lv_iload_n hx hb dX1_append_0 rfl (lv_at hl 2 rfl) ?_
  refine lv_iconst (v := (nI (1))) hx hb dX1_append_1 (by decide) ?_
  refine lv_isub hx hb dX1_append_2 ?_
  refine lv_istore (lv' := [(4, .int ((nI (k0)) - (nI (1)))), (0, .ref (g.2.2 3)), (1, .long (v)), (3, .int (nI (k0)))]) hx hb dX1_append_3 hl (by decide) rfl (fun ls hl => ?_)
  have lp_5 : ∀ (n : Nat) (i : Nat), (i ≤ k0) → k0 - i < n → ∀ (H : Heap) (locs : List Loc), va_P g.1 vwCl (wX g asked values (apb bytes L v k0 i) starts ends (nI (L + i)) parts texts lengths feet sorts nxt size sums oneSums otherSums byFeet kept over rcount rcust ssums ways nextWays reached nextReached found least greatest) H → va_S (aW 25 g.2.2 s.heap.size) s.heap H locs → ∀ (ls : Array Slot), lv_has ls 5 [(0, .ref (g.2.2 3)), (1, .long (v)), (3, .int (nI (k0))), (4, .int (nI (k0 - i) - nI 1))] → W p l e (headSpec wsX1_append ({ frames := 1, cells := 0, slots := 0, locals := 22 })).room s m (([.ref (g.2.2 3), .long (v), .int (nI (k0))] : List Value).toArray) below meth c H locs 0 0 (MQ below (va_Qv (fun (z : (Nat → Int32) × (Nat → Int32) × (Nat → Int32) × Int32 × Int32) => z.1 = apb bytes L v k0 k0 ∧ z.2.2.2.1 = nI (L + k0) ∧ z.2.2.2.2 = nI (pn (apb bytes L v k0 k0) (L + k0)) ∧ prow (apb bytes L v k0 k0) (L + k0) z.2.1 z.2.2.1) (fun (z : (Nat → Int32) × (Nat → Int32) × (Nat → Int32) × Int32 × Int32) (t : State) => va_P g.1 vwCl (wX g asked values (z.1) (z.2.1) (z.2.2.1) (z.2.2.2.1) (z.2.2.2.2) texts lengths feet sorts nxt size sums oneSums otherSums byFeet kept over rcount rcust ssums ways nextWays reached nextReached found least greatest) t.heap) (aW 25 g.2.2 s.heap.size)) (([.ref (g.2.2 3), .long (v), .int (nI (k0))] : List Value).toArray) s 0 0 (aW 25 g.2.2 s.heap.size)) (F0 m 5 ls []) := by
    intro n
    induction n with
    | zero => intro i hi hm; exact absurd hm (Nat.not_lt_zero _)
    | succ n ih_5 =>
      intro i hi hm_5 H locs hP hS ls hl
      have h30 := sub1_toInt (a := k0 - i) (by omega)
      refine lv_iload hx hb dX1_append_5 (lv_at hl 3 rfl) ?_
      refine lv_if_lt (tgt := 41) hx hb dX1_append_7 (by decide) (fun c_7 => ?_) (fun c_7 => ?_)
      · have c_7 := (cz_lt_i).mp c_7
        refine lv_aload_n hx hb dX1_append_41 rfl (lv_at hl 0 rfl) ?_
        rw [show i = k0 by omega] at hP
        refine wr_callv (w := (fun (z : (Nat → Int32) × (Nat → Int32) × Int32) => (wX g asked values (apb bytes L v k0 k0) (z.1) (z.2.1) (nI (L + k0)) (z.2.2) texts lengths feet sorts nxt size sums oneSums otherSums byFeet kept over rcount rcust ssums ways nextWays reached nextReached found least greatest))) (va_runV (As := []) (rest := []) ⟨hx, hb, hml, hown, hts⟩ (c_X1_findParts l (g := g) (asked := asked) (values := values) (bytes := apb bytes L v k0 k0) (starts := starts) (ends := ends) (L := L + k0) (parts := parts) (texts := texts) (lengths := lengths) (feet := feet) (sorts := sorts) (nxt := nxt) (size := size) (sums := sums) (oneSums := oneSums) (otherSums := otherSums) (byFeet := byFeet) (kept := kept) (over := over) (rcount := rcount) (rcust := rcust) (ssums := ssums) (ways := ways) (nextWays := nextWays) (reached := reached) (nextReached := nextReached) (found := found) (least := least) (greatest := greatest) (sz := _)  h3 hd) (cwV 0 hts gX1_append_X1_findParts rfl rfl rfl (by decide +kernel) ⟨Nat.le_of_ble_eq_true rfl, Nat.le_of_ble_eq_true rfl⟩) (pre_V qW_bl (va_recv hK hP (ci := 1) (q0 := 3) rfl rfl) (fun U hU hW => ⟨by rw [hU], pW_of hP hK hN hU hW⟩)) rfl rfl hl.1 rfl (lv_room (Nat.le_of_ble_eq_true rfl)) dX1_append_42 ⟨Nat.zero_le _, Nat.zero_le _⟩) hS (fun z42 H locs hp42 hP hS => ?_)
        obtain ⟨starts42, ends42, parts42⟩ := z42
        try dsimp only at hp42
        have hP : va_P g.1 vwCl (wX g asked values (apb bytes L v k0 k0) starts42 ends42 (nI (L + k0)) parts42 texts lengths feet sorts nxt size sums oneSums otherSums byFeet kept over rcount rcust ssums ways nextWays reached nextReached found least greatest) H := hP
        exact wr_vret (apb bytes L v k0 k0, starts42, ends42, nI (L + k0), parts42) hx hb hr hlocks (⟨rfl, rfl, hp42⟩) (fun t ht => show va_P g.1 vwCl (wX g asked values (apb bytes L v k0 k0) starts42 ends42 (nI (L + k0)) parts42 texts lengths feet sorts nxt size sums oneSums otherSums byFeet kept over rcount rcust ssums ways nextWays reached nextReached found least greatest) t.heap by rw [ht]; exact hP) hS dX1_append_45
      · have c_7 := (not_congr (cz_lt_i)).mp c_7
        rw [pk_sub (show 1 ≤ k0 - i by omega)] at hl
        refine lv_aload_n hx hb dX1_append_10 rfl (lv_at hl 0 rfl) ?_
        refine an_get (ci := 1) (v := .ref (g.2.2 4)) (C := RX1) (T := TX1) (N := 5) hx hb hts iw_X1_append_X1 hown hK hP 3 rfl rfl 0 (by decide) (hts _ fl_X1_append_9) rfl dX1_append_11 ?_
        refine lv_aload_n hx hb dX1_append_14 rfl (lv_at hl 0 rfl) ?_
        refine an_get (ci := 1) (v := .int (nI (L + i))) (C := RX1) (T := TX1) (N := 5) hx hb hts iw_X1_append_X1 hown hK hP 3 rfl rfl 3 (by decide) (hts _ fl_X1_append_21) rfl dX1_append_15 ?_
        refine lv_lload_n hx hb dX1_append_18 rfl (lv_at hl 1 rfl) ?_
        refine lv_iload hx hb dX1_append_19 (lv_at hl 3 rfl) ?_
        refine ro_call (va_runSN (As := [.long (v), .int (nI (k0 - i - 1))]) (rest := [.int (nI (L + i)), .ref (g.2.2 4)]) ⟨hx, hb, hml, hown, hts⟩ (c_X5_byteOf l (v) (k0 - i - 1) (by omega)) ⟨va_cnB 2 hts gX1_append_X5_byteOf_n25 rfl rfl rfl hN.2.2.1 (hts (.initialized RX5) (by decide +kernel)) (by decide +kernel) ⟨Nat.le_of_ble_eq_true rfl, Nat.le_of_ble_eq_true rfl⟩, hts (.static yX5_byteOf) (by decide +kernel), trivial⟩ pre_0 rfl rfl hl.1 rfl (lv_room (Nat.le_of_ble_eq_true rfl)) dX1_append_21 ⟨Nat.zero_le _, Nat.zero_le _⟩) ?_
        refine an_iast (f := apb bytes L v k0 i) (ws' := (wX g asked values (upd (apb bytes L v k0 i) (L + i) (nI (byt (v) (k0 - i - 1)))) starts ends (nI (L + i)) parts texts lengths feet sorts nxt size sums oneSums otherSums byFeet kept over rcount rcust ssums ways nextWays reached nextReached found least greatest)) hx hb hK hP (wX_D hd) hS 4 0 rfl rfl (by decide) (by omega) rfl dX1_append_24 (fun H locs hP hS => ?_)
        refine lv_aload_n hx hb dX1_append_25 rfl (lv_at hl 0 rfl) ?_
        refine lv_dup hx hb dX1_append_26 rfl ?_
        refine an_get (ci := 1) (v := .int (nI (L + i))) (C := RX1) (T := TX1) (N := 5) hx hb hts iw_X1_append_X1 hown hK hP 3 rfl rfl 3 (by decide) (hts _ fl_X1_append_21) rfl dX1_append_27 ?_
        refine lv_iconst (v := (nI (1))) hx hb dX1_append_30 (by decide) ?_
        refine ln_iadd hx hb dX1_append_31 ?_
        refine an_put (ci := 1) (v := .int (nI ((L + i) + 1))) (ty := .int) (C := RX1) (T := TX1) (N := 5) (ws' := (wX g asked values (upd (apb bytes L v k0 i) (L + i) (nI (byt (v) (k0 - i - 1)))) starts ends ((nI ((L + i) + 1))) parts texts lengths feet sorts nxt size sums oneSums otherSums byFeet kept over rcount rcust ssums ways nextWays reached nextReached found least greatest)) hx hb hts iw_X1_append_X1 tyX1 tyX1_ok nmX1 hown hK hP (wX_D hd) hS 3 rfl rfl 3 (by decide) (hts _ fl_X1_append_21) rfl (by decide +kernel) (rfl) (rfl) (Nat.le_of_ble_eq_true rfl) rfl dX1_append_32 (fun H locs hP hS => ?_)
        refine lv_iinc (v := (nI (k0 - (i + 1)) - nI 1)) (lv' := [(4, .int (nI (k0 - (i + 1)) - nI 1)), (0, .ref (g.2.2 3)), (1, .long (v)), (3, .int (nI (k0)))]) hx hb dX1_append_35 hl (k := 3) rfl (inc_m1 (by omega)) (by decide) rfl (fun ls hl => ?_)
        refine lv_goto (tgt := 5) hx hb dX1_append_38 (by decide) ?_
        exact ih_5 (i + 1) (by omega) (by omega) _ _ hP hS ls (lv_sub hl [1, 2, 3, 0] rfl)
  exact lp_5 (k0 - (0) + 1) 0 (Nat.zero_le _) (Nat.lt_succ_self _) _ _ hP hS ls (lv_sub hl [1, 2, 3, 0] rfl)
