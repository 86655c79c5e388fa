theorem iw_X2_addShifted_X2 : ∀ w ∈ u_ws RX2 TX2 11, w ∈ wsX2_addShifted := by decide +kernel
theorem fl_X2_addShifted_22 : Cond.fieldLink RX2 22 (TX2 6).1 (TX2 6).2.1 (TX2 6).2.2.1 ∈ wsX2_addShifted := by decide +kernel
theorem fl_X2_addShifted_25 : Cond.fieldLink RX2 25 (TX2 7).1 (TX2 7).2.1 (TX2 7).2.2.1 ∈ wsX2_addShifted := by decide +kernel
set_option maxHeartbeats 200000 in
set_option maxRecDepth 100000 in
theorem c_X2_addShifted (l : Launch) {g : GW} {asked : Int64} {values : Nat → Int32} {bytes : Nat → Int32} {starts : Nat → Int32} {ends : Nat → Int32} {length : Int32} {parts : Int32} {texts : Nat → Int32} {lengths : Nat → Int32} {feet : Nat → Int32} {sorts : Nat → Int32} {nxt : Nat → Int32} {size : Int32} {sums : Nat → Int32} {oneSums : Nat → Int32} {otherSums : Nat → Int32} {byFeet : Nat → Int64} {kept : Nat → Int64} {over : Int32} {rcount : Int32} {rcust : Int32} {ssums : Nat → Int32} {ways : Nat → Int64} {nextWays : Nat → Int64} {reached : Nat → Int64} {nextReached : Nat → Int64} {found : Int32} {least : Int32} {greatest : Int32} {sz : Nat} (fr : Nat) (wt : Nat) (by2 : Nat) (hfr : fr ≤ 141) (hwt : wt ≤ 141) (hby : by2 ≤ 8000) (hd : dW 25 g.2.2) : Met l yX2_addShifted wsX2_addShifted ({ frames := 0, cells := 0, slots := 0, locals := 0 }) (va_Pc ([.ref (g.2.2 19), .int (nI (fr)), .int (nI (wt)), .int (nI (by2))]) (qW g (wX g asked values bytes starts ends length parts texts lengths feet sorts nxt size sums oneSums otherSums byFeet kept over rcount rcust ssums ways nextWays reached nextReached found least greatest) sz)) (va_Qv (fun (z : (Nat → Int64)) => z = asf nextReached reached fr wt by2 47) (fun (z : (Nat → Int64)) (t : State) => va_P g.1 vwCl (wX g asked values bytes starts ends length parts texts lengths feet sorts nxt size sums oneSums otherSums byFeet kept over rcount rcust ssums ways nextWays reached z found least greatest) t.heap) (aW 25 g.2.2 sz)) 0 0 (aW 25 g.2.2 sz) := by
  refine Met.ofW (cc := cX2_addShifted) (maxL := 10) (ret := none) (by decide) rfl ?_
  intro p e s m args below meth c s₁ B hml hv
  obtain ⟨rfl, hsz9, hP, hK, hN⟩ := hv
  subst hsz9
  have hx := B.exec
  have hb := B.bytes
  have hr := B.returns
  have hts := atoms_spec (ws := wsX2_addShifted) B.pre
  have hown : s.vm.findClass RX2 = some m.cls := findClass_of_methodNamed B.named
  have hlocks := B.notSynchronized
  have hS : va_S (aW 25 g.2.2 s.heap.size) s.heap s.heap [] := va_S.rf
  have hl := lv_entry ([.ref (g.2.2 19), .int (nI (fr)), .int (nI (wt)), .int (nI (by2))]) (n := 10) (Nat.le_of_ble_eq_true rfl)
  rw [lg_entry_eq]
  generalize (lg_sl ([.ref (g.2.2 19), .int (nI (fr)), .int (nI (wt)), .int (nI (by2))]) ++ List.replicate (10 - (lg_sl ([.ref (g.2.2 19), .int (nI (fr)), .int (nI (wt)), .int (nI (by2))])).length) Slot.unset).toArray = ls at hl ⊢
  have hl : lv_has ls 10 [(0, .ref (g.2.2 19)), (1, .int (nI (fr))), (2, .int (nI (wt))), (3, .int (nI (by2)))] := hl
  refine lv_iload_n hx hb dX2_addShifted_0 rfl (lv_at hl 3 rfl) ?_
  refine lv_bipush (v := (nI (64))) hx hb dX2_addShifted_1 (by decide) ?_
  refine lv_idiv hx hb dX2_addShifted_3 (by decide) ?_
  refine ln_toi (y := (nI (by2 / 64))) (pk_div (by omega) (by decide) (by decide)) ?_
  refine lv_istore (lv' := [(4, .int (nI (by2 / 64))), (0, .ref (g.2.2 19)), (1, .int (nI (fr))), (2, .int (nI (wt))), (3, .int (nI (by2)))]) hx hb dX2_addShifted_4 hl (by decide) rfl (fun ls hl => ?_)
  refine lv_iload_n hx hb dX2_addShifted_6 rfl (lv_at hl 4 rfl) ?_
  refine lv_bipush (v := (nI (64))) hx hb dX2_addShifted_7 (by decide) ?_
  refine lv_irem hx hb dX2_addShifted_9 (by decide) ?_
  refine ln_toi (y := (nI (by2 % 64))) (pk_rem (by omega) (by decide) (by decide)) ?_
  refine lv_istore (lv' := [(5, .int (nI (by2 % 64))), (4, .int (nI (by2 / 64))), (0, .ref (g.2.2 19)), (1, .int (nI (fr))), (2, .int (nI (wt))), (3, .int (nI (by2)))]) hx hb dX2_addShifted_10 hl (by decide) rfl (fun ls hl => ?_)
  refine lv_iload hx hb dX2_addShifted_12 (lv_at hl 1 rfl) ?_
  refine lv_istore (lv' := [(6, .int (nI (by2 / 64))), (5, .int (nI (by2 % 64))), (4, .int (nI (by2 / 64))), (0, .ref (g.2.2 19)), (1, .int (nI (fr))), (2, .int (nI (wt))), (3, .int (nI (by2)))]) hx hb dX2_addShifted_14 hl (by decide) rfl (fun ls hl => ?_)
  rw [← asf_0 nextReached reached fr wt by2 (by2 / 64) (Nat.le_refl _)] at hP
  have lp_16 : ∀ (n : Nat) (k : Nat), (by2 / 64 ≤ k) → (k ≤ 47 ∨ k = by2 / 64) → 47 - k < n → ∀ (H : Heap) (locs : List Loc), va_P g.1 vwCl (wX g asked values bytes starts ends length parts texts lengths feet sorts nxt size sums oneSums otherSums byFeet kept over rcount rcust ssums ways nextWays reached (asf nextReached reached fr wt by2 k) found least greatest) H → va_S (aW 25 g.2.2 s.heap.size) s.heap H locs → ∀ (ls : Array Slot), lv_has ls 10 [(0, .ref (g.2.2 19)), (1, .int (nI (fr))), (2, .int (nI (wt))), (3, .int (nI (by2))), (4, .int (nI (by2 / 64))), (5, .int (nI (by2 % 64))), (6, .int (nI (k)))] → W p l e (headSpec wsX2_addShifted ({ frames := 0, cells := 0, slots := 0, locals := 0 })).room s m (([.ref (g.2.2 19), .int (nI (fr)), .int (nI (wt)), .int (nI (by2))] : List Value).toArray) below meth c H locs 0 0 (MQ below (va_Qv (fun (z : (Nat → Int64)) => z = asf nextReached reached fr wt by2 47) (fun (z : (Nat → Int64)) (t : State) => va_P g.1 vwCl (wX g asked values bytes starts ends length parts texts lengths feet sorts nxt size sums oneSums otherSums byFeet kept over rcount rcust ssums ways nextWays reached z found least greatest) t.heap) (aW 25 g.2.2 s.heap.size)) (([.ref (g.2.2 19), .int (nI (fr)), .int (nI (wt)), .int (nI (by2))] : List Value).toArray) s 0 0 (aW 25 g.2.2 s.heap.size)) (F0 m 16 ls []) := by
    intro n
    induction n with
    | zero => intro k hk1 hk2 hm; exact absurd hm (Nat.not_lt_zero _)
    | succ n ih_16 =>
      intro k hk1 hk2 hm_16 H locs hP hS ls hl
      refine lv_iload hx hb dX2_addShifted_16 (lv_at hl 6 rfl) ?_
      refine lv_bipush (v := (nI (47))) hx hb dX2_addShifted_18 (by decide) ?_
      refine lv_icmp_ge (tgt := 96) hx hb dX2_addShifted_20 (by decide) (fun c_20 => ?_) (fun c_20 => ?_)
      · have c_20 := (cv_le_nn (by omega) (by omega)).mp c_20
        exact wr_vret (asf nextReached reached fr wt by2 k) hx hb hr hlocks (by rcases Nat.lt_or_ge k 48 with q | q; (rw [show k = 47 by omega]); (rw [asf_0 _ _ _ _ _ k (by omega), asf_0 _ _ _ _ _ 47 (by omega)])) (fun t ht => show va_P g.1 vwCl (wX g asked values bytes starts ends length parts texts lengths feet sorts nxt size sums oneSums otherSums byFeet kept over rcount rcust ssums ways nextWays reached (asf nextReached reached fr wt by2 k) found least greatest) t.heap by rw [ht]; exact hP) hS dX2_addShifted_96
      · have c_20 := (not_congr (cv_le_nn (by omega) (by omega))).mp c_20
        refine lv_iload hx hb dX2_addShifted_23 (lv_at hl 6 rfl) ?_
        refine lv_iload hx hb dX2_addShifted_25 (lv_at hl 4 rfl) ?_
        refine ln_isub hx hb (by omega) dX2_addShifted_27 ?_
        refine lv_istore (lv' := [(7, .int (nI (k - (by2 / 64)))), (0, .ref (g.2.2 19)), (1, .int (nI (fr))), (2, .int (nI (wt))), (3, .int (nI (by2))), (4, .int (nI (by2 / 64))), (5, .int (nI (by2 % 64))), (6, .int (nI (k)))]) hx hb dX2_addShifted_28 hl (by decide) rfl (fun ls hl => ?_)
        refine lv_aload_n hx hb dX2_addShifted_30 rfl (lv_at hl 1 rfl) ?_
        refine an_get (ci := 2) (v := .ref (g.2.2 23)) (C := RX2) (T := TX2) (N := 11) hx hb hts iw_X2_addShifted_X2 hown hK hP 19 rfl rfl 6 (by decide) (hts _ fl_X2_addShifted_22) rfl dX2_addShifted_31 ?_
        refine lv_iload_n hx hb dX2_addShifted_34 rfl (lv_at hl 2 rfl) ?_
        refine lv_iload hx hb dX2_addShifted_35 (lv_at hl 0 rfl) ?_
        refine ln_iadd hx hb dX2_addShifted_37 ?_
        refine an_lald (f := reached) hx hb hK hP 23 1 rfl rfl (by decide) (by omega) dX2_addShifted_38 ?_
        refine lv_iload hx hb dX2_addShifted_39 (lv_at hl 6 rfl) ?_
        refine lv_lshl hx hb dX2_addShifted_41 rfl ?_
        refine lv_lstore (lv' := [(8, .long ((reached (fr + (k - (by2 / 64)))) <<< ((nI (by2 % 64)).toInt64 &&& 63))), (7, .int (nI (k - (by2 / 64)))), (0, .ref (g.2.2 19)), (1, .int (nI (fr))), (2, .int (nI (wt))), (3, .int (nI (by2))), (4, .int (nI (by2 / 64))), (5, .int (nI (by2 % 64))), (6, .int (nI (k)))]) hx hb dX2_addShifted_42 hl (by decide) rfl (fun ls hl => ?_)
        refine lv_iload hx hb dX2_addShifted_44 (lv_at hl 7 rfl) ?_
        refine lv_if_le (tgt := 76) hx hb dX2_addShifted_46 (by decide) (fun c_46 => ?_) (fun c_46 => ?_)
        · have c_46 := (cz_le_n (by omega)).mp c_46
          refine lv_aload_n hx hb dX2_addShifted_76 rfl (lv_at hl 2 rfl) ?_
          refine an_get (ci := 2) (v := .ref (g.2.2 24)) (C := RX2) (T := TX2) (N := 11) hx hb hts iw_X2_addShifted_X2 hown hK hP 19 rfl rfl 7 (by decide) (hts _ fl_X2_addShifted_25) rfl dX2_addShifted_77 ?_
          refine lv_iload_n hx hb dX2_addShifted_80 rfl (lv_at hl 4 rfl) ?_
          refine lv_iload hx hb dX2_addShifted_81 (lv_at hl 8 rfl) ?_
          refine ln_iadd hx hb dX2_addShifted_83 ?_
          refine lv_dup2_11 hx hb dX2_addShifted_84 rfl rfl ?_
          refine an_lald (f := asf nextReached reached fr wt by2 k) hx hb hK hP 24 1 rfl rfl (by decide) (by omega) dX2_addShifted_85 ?_
          refine ln_tol (y := (nextReached (wt + k))) (asf_k _ _ _ _ _ _) ?_
          refine lv_lload hx hb dX2_addShifted_86 (lv_at hl 0 rfl) ?_
          refine lv_lor hx hb dX2_addShifted_88 ?_
          refine ln_tol (y := (nextReached (wt + k) ||| shw reached fr by2 k)) (congrArg (fun q => nextReached (wt + k) ||| q) (shw_n (r := reached) (fr := fr) (b := by2) (k := k) (by omega))) ?_
          refine an_last (f := asf nextReached reached fr wt by2 k) (ws' := (wX g asked values bytes starts ends length parts texts lengths feet sorts nxt size sums oneSums otherSums byFeet kept over rcount rcust ssums ways nextWays reached (vp_updL (asf nextReached reached fr wt by2 k) (wt + k) (nextReached (wt + k) ||| shw reached fr by2 k)) found least greatest)) hx hb hK hP (wX_D hd) hS 24 1 rfl rfl (by decide) (by omega) rfl dX2_addShifted_89 (fun H locs hP hS => ?_)
          refine lv_iinc (v := (nI (k + 1))) (lv' := [(6, .int (nI (k + 1))), (8, .long ((reached (fr + (k - (by2 / 64)))) <<< ((nI (by2 % 64)).toInt64 &&& 63))), (7, .int (nI (k - (by2 / 64)))), (0, .ref (g.2.2 19)), (1, .int (nI (fr))), (2, .int (nI (wt))), (3, .int (nI (by2))), (4, .int (nI (by2 / 64))), (5, .int (nI (by2 % 64)))]) hx hb dX2_addShifted_90 hl (k := 8) rfl (nI_add _ 1) (by decide) rfl (fun ls hl => ?_)
          refine lv_goto (tgt := 16) hx hb dX2_addShifted_93 (by decide) ?_
          rw [asf_s _ _ _ _ _ _ hk1] at hP
          exact ih_16 (k + 1) (by omega) (by omega) (by omega) _ _ hP hS ls (lv_sub hl [3, 4, 5, 6, 7, 8, 0] rfl)
        · have c_46 := (not_congr (cz_le_n (by omega))).mp c_46
          refine lv_iload hx hb dX2_addShifted_49 (lv_at hl 1 rfl) ?_
          refine lv_if_le (tgt := 76) hx hb dX2_addShifted_51 (by decide) (fun c_51 => ?_) (fun c_51 => ?_)
          · have c_51 := (cz_le_n (by omega)).mp c_51
            refine lv_aload_n hx hb dX2_addShifted_76 rfl (lv_at hl 2 rfl) ?_
            refine an_get (ci := 2) (v := .ref (g.2.2 24)) (C := RX2) (T := TX2) (N := 11) hx hb hts iw_X2_addShifted_X2 hown hK hP 19 rfl rfl 7 (by decide) (hts _ fl_X2_addShifted_25) rfl dX2_addShifted_77 ?_
            refine lv_iload_n hx hb dX2_addShifted_80 rfl (lv_at hl 4 rfl) ?_
            refine lv_iload hx hb dX2_addShifted_81 (lv_at hl 8 rfl) ?_
            refine ln_iadd hx hb dX2_addShifted_83 ?_
            refine lv_dup2_11 hx hb dX2_addShifted_84 rfl rfl ?_
            refine an_lald (f := asf nextReached reached fr wt by2 k) hx hb hK hP 24 1 rfl rfl (by decide) (by omega) dX2_addShifted_85 ?_
            refine ln_tol (y := (nextReached (wt + k))) (asf_k _ _ _ _ _ _) ?_
            refine lv_lload hx hb dX2_addShifted_86 (lv_at hl 0 rfl) ?_
            refine lv_lor hx hb dX2_addShifted_88 ?_
            refine ln_tol (y := (nextReached (wt + k) ||| shw reached fr by2 k)) (congrArg (fun q => nextReached (wt + k) ||| q) (shw_n (r := reached) (fr := fr) (b := by2) (k := k) (by omega))) ?_
            refine an_last (f := asf nextReached reached fr wt by2 k) (ws' := (wX g asked values bytes starts ends length parts texts lengths feet sorts nxt size sums oneSums otherSums byFeet kept over rcount rcust ssums ways nextWays reached (vp_updL (asf nextReached reached fr wt by2 k) (wt + k) (nextReached (wt + k) ||| shw reached fr by2 k)) found least greatest)) hx hb hK hP (wX_D hd) hS 24 1 rfl rfl (by decide) (by omega) rfl dX2_addShifted_89 (fun H locs hP hS => ?_)
            refine lv_iinc (v := (nI (k + 1))) (lv' := [(6, .int (nI (k + 1))), (8, .long ((reached (fr + (k - (by2 / 64)))) <<< ((nI (by2 % 64)).toInt64 &&& 63))), (7, .int (nI (k - (by2 / 64)))), (0, .ref (g.2.2 19)), (1, .int (nI (fr))), (2, .int (nI (wt))), (3, .int (nI (by2))), (4, .int (nI (by2 / 64))), (5, .int (nI (by2 % 64)))]) hx hb dX2_addShifted_90 hl (k := 8) rfl (nI_add _ 1) (by decide) rfl (fun ls hl => ?_)
            refine lv_goto (tgt := 16) hx hb dX2_addShifted_93 (by decide) ?_
            rw [asf_s _ _ _ _ _ _ hk1] at hP
            exact ih_16 (k + 1) (by omega) (by omega) (by omega) _ _ hP hS ls (lv_sub hl [3, 4, 5, 6, 7, 8, 0] rfl)
          · have c_51 := (not_congr (cz_le_n (by omega))).mp c_51
            refine lv_lload hx hb dX2_addShifted_54 (lv_at hl 0 rfl) ?_
            refine lv_aload_n hx hb dX2_addShifted_56 rfl (lv_at hl 2 rfl) ?_
            refine an_get (ci := 2) (v := .ref (g.2.2 23)) (C := RX2) (T := TX2) (N := 11) hx hb hts iw_X2_addShifted_X2 hown hK hP 19 rfl rfl 6 (by decide) (hts _ fl_X2_addShifted_22) rfl dX2_addShifted_57 ?_
            refine lv_iload_n hx hb dX2_addShifted_60 rfl (lv_at hl 3 rfl) ?_
            refine lv_iload hx hb dX2_addShifted_61 (lv_at hl 1 rfl) ?_
            refine ln_iadd hx hb dX2_addShifted_63 ?_
            refine lv_iconst (v := (nI (1))) hx hb dX2_addShifted_64 (by decide) ?_
            refine ln_isub hx hb (by omega) dX2_addShifted_65 ?_
            refine an_lald (f := reached) hx hb hK hP 23 1 rfl rfl (by decide) (by omega) dX2_addShifted_66 ?_
            refine lv_bipush (v := (nI (64))) hx hb dX2_addShifted_67 (by decide) ?_
            refine lv_iload hx hb dX2_addShifted_69 (lv_at hl 7 rfl) ?_
            refine ln_isub hx hb (by omega) dX2_addShifted_71 ?_
            refine lv_lushr hx hb dX2_addShifted_72 rfl ?_
            refine lv_lor hx hb dX2_addShifted_73 ?_
            refine lv_lstore (lv' := [(8, .long (((reached (fr + (k - (by2 / 64)))) <<< ((nI (by2 % 64)).toInt64 &&& 63)) ||| (((reached ((fr + (k - (by2 / 64))) - 1)).toUInt64 >>> ((nI (64 - (by2 % 64))).toInt64.toUInt64 &&& Int64.toUInt64 63)).toInt64))), (7, .int (nI (k - (by2 / 64)))), (0, .ref (g.2.2 19)), (1, .int (nI (fr))), (2, .int (nI (wt))), (3, .int (nI (by2))), (4, .int (nI (by2 / 64))), (5, .int (nI (by2 % 64))), (6, .int (nI (k)))]) hx hb dX2_addShifted_74 hl (by decide) rfl (fun ls hl => ?_)
            refine lv_aload_n hx hb dX2_addShifted_76 rfl (lv_at hl 2 rfl) ?_
            refine an_get (ci := 2) (v := .ref (g.2.2 24)) (C := RX2) (T := TX2) (N := 11) hx hb hts iw_X2_addShifted_X2 hown hK hP 19 rfl rfl 7 (by decide) (hts _ fl_X2_addShifted_25) rfl dX2_addShifted_77 ?_
            refine lv_iload_n hx hb dX2_addShifted_80 rfl (lv_at hl 4 rfl) ?_
            refine lv_iload hx hb dX2_addShifted_81 (lv_at hl 8 rfl) ?_
            refine ln_iadd hx hb dX2_addShifted_83 ?_
            refine lv_dup2_11 hx hb dX2_addShifted_84 rfl rfl ?_
            refine an_lald (f := asf nextReached reached fr wt by2 k) hx hb hK hP 24 1 rfl rfl (by decide) (by omega) dX2_addShifted_85 ?_
            refine ln_tol (y := (nextReached (wt + k))) (asf_k _ _ _ _ _ _) ?_
            refine lv_lload hx hb dX2_addShifted_86 (lv_at hl 0 rfl) ?_
            refine lv_lor hx hb dX2_addShifted_88 ?_
            refine ln_tol (y := (nextReached (wt + k) ||| shw reached fr by2 k)) (congrArg (fun q => nextReached (wt + k) ||| q) (shw_y (r := reached) (fr := fr) (b := by2) (k := k) (by omega) (by omega))) ?_
            refine an_last (f := asf nextReached reached fr wt by2 k) (ws' := (wX g asked values bytes starts ends length parts texts lengths feet sorts nxt size sums oneSums otherSums byFeet kept over rcount rcust ssums ways nextWays reached (vp_updL (asf nextReached reached fr wt by2 k) (wt + k) (nextReached (wt + k) ||| shw reached fr by2 k)) found least greatest)) hx hb hK hP (wX_D hd) hS 24 1 rfl rfl (by decide) (by omega) rfl dX2_addShifted_89 (fun H locs hP hS => ?_)
            refine lv_iinc (v := (nI (k + 1))) (lv' := [(6, .int (nI (k + 1))), (8, .long (((reached (fr + (k - (by2 / 64)))) <<< ((nI (by2 % 64)).toInt64 &&& 63)) ||| (((reached ((fr + (k - (by2 / 64))) - 1)).toUInt64 >>> ((nI (64 - (by2 % 64))).toInt64.toUInt64 &&& Int64.toUInt64 63)).toInt64))), (7, .int (nI (k - (by2 / 64)))), (0, .ref (g.2.2 19)), (1, .int (nI (fr))), (2, .int (nI (wt))), (3, .int (nI (by2))), (4, .int (nI (by2 / 64))), (5, .int (nI (by2 % 64)))]) hx hb dX2_addShifted_90 hl (k := 8) rfl (nI_add _ 1) (by decide) rfl (fun ls hl => ?_)
            refine lv_goto (tgt := 16) hx hb dX2_addShifted_93 (by decide) ?_
            rw [asf_s _ _ _ _ _ _ hk1] at hP
            exact ih_16 (k + 1) (by omega) (by omega) (by omega) _ _ hP hS ls (lv_sub hl [3, 4, 5, 6, 7, 8, 0] rfl)
  exact lp_16 (47 - ((by2 / 64)) + 1) (by2 / 64) (Nat.le_refl _) (by omega) (Nat.lt_succ_self _) _ _ hP hS ls (lv_sub hl [3, 4, 5, 6, 2, 1, 0] rfl)
