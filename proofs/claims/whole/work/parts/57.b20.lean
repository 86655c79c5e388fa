theorem iw_X2_takeYears_X2 : ∀ w ∈ u_ws RX2 TX2 11, w ∈ wsX2_takeYears := by decide +kernel
theorem fl_X2_takeYears_22 : Cond.fieldLink RX2 22 (TX2 6).1 (TX2 6).2.1 (TX2 6).2.2.1 ∈ wsX2_takeYears := by decide +kernel
theorem fl_X2_takeYears_91 : Cond.fieldLink RX2 91 (TX2 8).1 (TX2 8).2.1 (TX2 8).2.2.1 ∈ wsX2_takeYears := by decide +kernel
theorem fl_X2_takeYears_94 : Cond.fieldLink RX2 94 (TX2 9).1 (TX2 9).2.1 (TX2 9).2.2.1 ∈ wsX2_takeYears := by decide +kernel
theorem fl_X2_takeYears_97 : Cond.fieldLink RX2 97 (TX2 10).1 (TX2 10).2.1 (TX2 10).2.2.1 ∈ wsX2_takeYears := by decide +kernel
set_option maxHeartbeats 200000 in
set_option maxRecDepth 100000 in
theorem c_X2_takeYears (l : Launch) {g : GW} {asked : Int64} {values : Nat → Int32} {bytes : Nat → Int32} {starts : Nat → Int32} {ends : Nat → Int32} {length : Int32} {parts : Int32} {texts : Nat → Int32} {lengths : Nat → Int32} {feet : Nat → Int32} {sorts : Nat → Int32} {nxt : Nat → Int32} {size : Int32} {sums : Nat → Int32} {oneSums : Nat → Int32} {otherSums : Nat → Int32} {byFeet : Nat → Int64} {kept : Nat → Int64} {over : Int32} {rcount : Int32} {rcust : Int32} {ssums : Nat → Int32} {ways : Nat → Int64} {nextWays : Nat → Int64} {reached : Nat → Int64} {nextReached : Nat → Int64} {found : Int32} {least : Int32} {greatest : Int32} {sz : Nat} (word : Nat) (Qy : Nat → Prop) (hw : word < 47) (hq : ∀ j, j < 64 → ((uN (bo reached word 3)).testBit j = true ↔ Qy (64 * word + j))) (hf9 : found = nI (ycn Qy (64 * word))) (hl9 : least = yfi Qy (64 * word)) (hg9 : greatest = yla Qy (64 * word)) (hd : dW 25 g.2.2) : Met l yX2_takeYears wsX2_takeYears ({ frames := 0, cells := 0, slots := 0, locals := 0 }) (va_Pc ([.ref (g.2.2 19), .int (nI (word))]) (qW g (wX g asked values bytes starts ends length parts texts lengths feet sorts nxt size sums oneSums otherSums byFeet kept over rcount rcust ssums ways nextWays reached nextReached found least greatest) sz)) (va_Qv (fun (z : Int32 × Int32 × Int32) => z.1 = nI (ycn Qy (min (64 * word + 64) 3001)) ∧ z.2.1 = yfi Qy (min (64 * word + 64) 3001) ∧ z.2.2 = yla Qy (min (64 * word + 64) 3001)) (fun (z : Int32 × Int32 × Int32) (t : State) => va_P g.1 vwCl (wX g asked values bytes starts ends length parts texts lengths feet sorts nxt size sums oneSums otherSums byFeet kept over rcount rcust ssums ways nextWays reached nextReached (z.1) (z.2.1) (z.2.2)) t.heap) (aW 25 g.2.2 sz)) 0 0 (aW 25 g.2.2 sz) := by
  refine Met.ofW (cc := cX2_takeYears) (maxL := 5) (ret := none) (by decide) rfl ?_
  intro p e s m args below meth c s₁ B hml hv
  obtain ⟨rfl, hsz9, hP, hK, hN⟩ := hv
  subst hsz9
  have hx := B.exec
  have hb := B.bytes
  have hr := B.returns
  have hts := atoms_spec (ws := wsX2_takeYears) B.pre
  have hown : s.vm.findClass RX2 = some m.cls := findClass_of_methodNamed B.named
  have hlocks := B.notSynchronized
  have hS : va_S (aW 25 g.2.2 s.heap.size) s.heap s.heap [] := va_S.rf
  have hl := lv_entry ([.ref (g.2.2 19), .int (nI (word))]) (n := 5) (Nat.le_of_ble_eq_true rfl)
  rw [lg_entry_eq]
  generalize (lg_sl ([.ref (g.2.2 19), .int (nI (word))]) ++ List.replicate (5 - (lg_sl ([.ref (g.2.2 19), .int (nI (word))])).length) Slot.unset).toArray = ls at hl ⊢
  have hl : lv_has ls 5 [(0, .ref (g.2.2 19)), (1, .int (nI (word)))] := hl
  refine lv_lconst (v := (lN (0))) hx hb dX2_takeYears_0 (by decide) ?_
  refine lv_lstore_n (lv' := [(2, .long (lN (0))), (0, .ref (g.2.2 19)), (1, .int (nI (word)))]) hx hb dX2_takeYears_1 rfl hl (by decide) rfl (fun ls hl => ?_)
  refine lv_iconst (v := (nI (0))) hx hb dX2_takeYears_2 (by decide) ?_
  refine lv_istore (lv' := [(4, .int (nI (0))), (2, .long (lN (0))), (0, .ref (g.2.2 19)), (1, .int (nI (word)))]) hx hb dX2_takeYears_3 hl (by decide) rfl (fun ls hl => ?_)
  have lp_5 : ∀ (n : Nat) (k : Nat), (k ≤ 3) → 3 - k < n → ∀ (H : Heap) (locs : List Loc), va_P g.1 vwCl (wX g asked values bytes starts ends length parts texts lengths feet sorts nxt size sums oneSums otherSums byFeet kept over rcount rcust ssums ways nextWays reached nextReached found least greatest) H → va_S (aW 25 g.2.2 s.heap.size) s.heap H locs → ∀ (ls : Array Slot), lv_has ls 5 [(0, .ref (g.2.2 19)), (1, .int (nI (word))), (2, .long (bo reached word k)), (4, .int (nI (k)))] → W p l e (headSpec wsX2_takeYears ({ frames := 0, cells := 0, slots := 0, locals := 0 })).room s m (([.ref (g.2.2 19), .int (nI (word))] : List Value).toArray) below meth c H locs 0 0 (MQ below (va_Qv (fun (z : Int32 × Int32 × Int32) => z.1 = nI (ycn Qy (min (64 * word + 64) 3001)) ∧ z.2.1 = yfi Qy (min (64 * word + 64) 3001) ∧ z.2.2 = yla Qy (min (64 * word + 64) 3001)) (fun (z : Int32 × Int32 × Int32) (t : State) => va_P g.1 vwCl (wX g asked values bytes starts ends length parts texts lengths feet sorts nxt size sums oneSums otherSums byFeet kept over rcount rcust ssums ways nextWays reached nextReached (z.1) (z.2.1) (z.2.2)) t.heap) (aW 25 g.2.2 s.heap.size)) (([.ref (g.2.2 19), .int (nI (word))] : List Value).toArray) s 0 0 (aW 25 g.2.2 s.heap.size)) (F0 m 5 ls []) := by
    intro n
    induction n with
    | zero => intro k hk hm; exact absurd hm (Nat.not_lt_zero _)
    | succ n ih_5 =>
      intro k hk hm_5 H locs hP hS ls hl
      refine lv_iload hx hb dX2_takeYears_5 (lv_at hl 3 rfl) ?_
      refine lv_iconst (v := (nI (3))) hx hb dX2_takeYears_7 (by decide) ?_
      refine lv_icmp_ge (tgt := 32) hx hb dX2_takeYears_8 (by decide) (fun c_8 => ?_) (fun c_8 => ?_)
      · have c_8 := (cv_le_nn (by omega) (by omega)).mp c_8
        refine lv_iload_n hx hb dX2_takeYears_32 rfl (lv_at hl 1 rfl) ?_
        refine lv_bipush (v := (nI (64))) hx hb dX2_takeYears_33 (by decide) ?_
        refine ln_imul hx hb dX2_takeYears_35 ?_
        refine lv_istore (lv' := [(4, .int (nI (word * 64))), (0, .ref (g.2.2 19)), (1, .int (nI (word))), (2, .long (bo reached word k))]) hx hb dX2_takeYears_36 hl (by decide) rfl (fun ls hl => ?_)
        rw [hf9, hl9, hg9, Nat.mul_comm 64 word] at hP
        have lp_38 : ∀ (n : Nat) (yy : Nat) (bb : Int64), (64 * word ≤ yy) → (yy ≤ 64 * word + 64) → (yy ≤ 3001) → (∀ j, (uN bb).testBit j = (uN (bo reached word 3)).testBit (yy - 64 * word + j)) → 3001 - yy < n → ∀ (H : Heap) (locs : List Loc), va_P g.1 vwCl (wX g asked values bytes starts ends length parts texts lengths feet sorts nxt size sums oneSums otherSums byFeet kept over rcount rcust ssums ways nextWays reached nextReached (nI (ycn Qy yy)) (yfi Qy yy) (yla Qy yy)) H → va_S (aW 25 g.2.2 s.heap.size) s.heap H locs → ∀ (ls : Array Slot), lv_has ls 5 [(0, .ref (g.2.2 19)), (1, .int (nI (word))), (2, .long (bb)), (4, .int (nI (yy)))] → W p l e (headSpec wsX2_takeYears ({ frames := 0, cells := 0, slots := 0, locals := 0 })).room s m (([.ref (g.2.2 19), .int (nI (word))] : List Value).toArray) below meth c H locs 0 0 (MQ below (va_Qv (fun (z : Int32 × Int32 × Int32) => z.1 = nI (ycn Qy (min (64 * word + 64) 3001)) ∧ z.2.1 = yfi Qy (min (64 * word + 64) 3001) ∧ z.2.2 = yla Qy (min (64 * word + 64) 3001)) (fun (z : Int32 × Int32 × Int32) (t : State) => va_P g.1 vwCl (wX g asked values bytes starts ends length parts texts lengths feet sorts nxt size sums oneSums otherSums byFeet kept over rcount rcust ssums ways nextWays reached nextReached (z.1) (z.2.1) (z.2.2)) t.heap) (aW 25 g.2.2 s.heap.size)) (([.ref (g.2.2 19), .int (nI (word))] : List Value).toArray) s 0 0 (aW 25 g.2.2 s.heap.size)) (F0 m 38 ls []) := by
          intro n
          induction n with
          | zero => intro yy bb h1 h2 h3 hbt hm; exact absurd hm (Nat.not_lt_zero _)
          | succ n ih_38 =>
            intro yy bb h1 h2 h3 hbt hm_38 H locs hP hS ls hl
            refine lv_lload_n hx hb dX2_takeYears_38 rfl (lv_at hl 2 rfl) ?_
            refine lv_lconst (v := (lN (0))) hx hb dX2_takeYears_39 (by decide) ?_
            refine W.lcmp hx hb dX2_takeYears_40 ?_
            refine lv_if_eq (tgt := 108) hx hb dX2_takeYears_41 (by decide) (fun c_41 => ?_) (fun c_41 => ?_)
            · have c_41 := (cw_eq (bb) (lN (0))).1 c_41
              exact wr_vret (nI (ycn Qy yy), yfi Qy yy, yla Qy yy) hx hb hr hlocks (by first | exact ty_z hq hbt h1 (by omega) c_41 | (rw [show min (64 * word + 64) 3001 = yy by omega]; exact ⟨rfl, rfl, rfl⟩)) (fun t ht => show va_P g.1 vwCl (wX g asked values bytes starts ends length parts texts lengths feet sorts nxt size sums oneSums otherSums byFeet kept over rcount rcust ssums ways nextWays reached nextReached (nI (ycn Qy yy)) (yfi Qy yy) (yla Qy yy)) t.heap by rw [ht]; exact hP) hS dX2_takeYears_108
            · have c_41 := (cw_eq (bb) (lN (0))).2 c_41
              refine lv_iload hx hb dX2_takeYears_44 (lv_at hl 3 rfl) ?_
              refine lv_sipush (v := (nI (3000))) hx hb dX2_takeYears_46 (by decide) ?_
              refine lv_icmp_gt (tgt := 108) hx hb dX2_takeYears_49 (by decide) (fun c_49 => ?_) (fun c_49 => ?_)
              · have c_49 := (cv_lt_nn (by omega) (by omega)).mp c_49
                exact wr_vret (nI (ycn Qy yy), yfi Qy yy, yla Qy yy) hx hb hr hlocks (by first | exact ty_z hq hbt h1 (by omega) c_41 | (rw [show min (64 * word + 64) 3001 = yy by omega]; exact ⟨rfl, rfl, rfl⟩)) (fun t ht => show va_P g.1 vwCl (wX g asked values bytes starts ends length parts texts lengths feet sorts nxt size sums oneSums otherSums byFeet kept over rcount rcust ssums ways nextWays reached nextReached (nI (ycn Qy yy)) (yfi Qy yy) (yla Qy yy)) t.heap by rw [ht]; exact hP) hS dX2_takeYears_108
              · have c_49 := (not_congr (cv_lt_nn (by omega) (by omega))).mp c_49
                have h64 := ty_lt hbt h1 c_41
                have hQi := ty_q hq hbt h1 h64
                refine lv_lload_n hx hb dX2_takeYears_52 rfl (lv_at hl 2 rfl) ?_
                refine lv_lconst (v := (lN (1))) hx hb dX2_takeYears_53 (by decide) ?_
                refine lv_land hx hb dX2_takeYears_54 ?_
                refine lv_lconst (v := (lN (1))) hx hb dX2_takeYears_55 (by decide) ?_
                refine W.lcmp hx hb dX2_takeYears_56 ?_
                refine lv_if_ne (tgt := 98) hx hb dX2_takeYears_57 (by decide) (fun c_57 => ?_) (fun c_57 => ?_)
                · have c_57 := (cw_ne ((bb) &&& (lN (1))) (lN (1))).1 c_57
                  have hQ : ¬ Qy yy := fun z => c_57 ((tb_1 bb).mpr (hQi.mpr z))
                  refine lv_lload_n hx hb dX2_takeYears_98 rfl (lv_at hl 2 rfl) ?_
                  refine lv_iconst (v := (nI (1))) hx hb dX2_takeYears_99 (by decide) ?_
                  refine lv_lushr hx hb dX2_takeYears_100 rfl ?_
                  refine lv_lstore_n (lv' := [(2, .long (((bb).toUInt64 >>> ((nI (1)).toInt64.toUInt64 &&& Int64.toUInt64 63)).toInt64)), (0, .ref (g.2.2 19)), (1, .int (nI (word))), (4, .int (nI (yy)))]) hx hb dX2_takeYears_101 rfl hl (by decide) rfl (fun ls hl => ?_)
                  refine lv_iinc (v := (nI (yy + 1))) (lv' := [(4, .int (nI (yy + 1))), (2, .long (((bb).toUInt64 >>> ((nI (1)).toInt64.toUInt64 &&& Int64.toUInt64 63)).toInt64)), (0, .ref (g.2.2 19)), (1, .int (nI (word)))]) hx hb dX2_takeYears_102 hl (k := 3) rfl (nI_add _ 1) (by decide) rfl (fun ls hl => ?_)
                  refine lv_goto (tgt := 38) hx hb dX2_takeYears_105 (by decide) ?_
                  rw [ycn_n hQ, yfi_n hQ, yla_n hQ] at hP
                  exact ih_38 (yy + 1) (((bb).toUInt64 >>> ((nI (1)).toInt64.toUInt64 &&& Int64.toUInt64 63)).toInt64) (by omega) (by omega) (by omega) (ty_s hbt h1) (by omega) _ _ hP hS ls (lv_sub hl [2, 3, 1, 0] rfl)
                · have c_57 := (cw_ne ((bb) &&& (lN (1))) (lN (1))).2 c_57
                  have hQ : Qy yy := hQi.mp ((tb_1 bb).mp c_57)
                  refine lv_aload_n hx hb dX2_takeYears_60 rfl (lv_at hl 0 rfl) ?_
                  refine lv_dup hx hb dX2_takeYears_61 rfl ?_
                  refine an_get (ci := 2) (v := .int (nI (ycn Qy yy))) (C := RX2) (T := TX2) (N := 11) hx hb hts iw_X2_takeYears_X2 hown hK hP 19 rfl rfl 8 (by decide) (hts _ fl_X2_takeYears_91) rfl dX2_takeYears_62 ?_
                  refine lv_iconst (v := (nI (1))) hx hb dX2_takeYears_65 (by decide) ?_
                  refine ln_iadd hx hb dX2_takeYears_66 ?_
                  refine ln_toi (y := (nI (ycn Qy (yy + 1)))) (congrArg nI (ycn_y hQ)) ?_
                  refine an_put (ci := 2) (v := .int (nI (ycn Qy (yy + 1)))) (ty := .int) (C := RX2) (T := TX2) (N := 11) (ws' := (wX g asked values bytes starts ends length parts texts lengths feet sorts nxt size sums oneSums otherSums byFeet kept over rcount rcust ssums ways nextWays reached nextReached ((nI (ycn Qy (yy + 1)))) (yfi Qy yy) (yla Qy yy))) hx hb hts iw_X2_takeYears_X2 tyX2 tyX2_ok nmX2 hown hK hP (wX_D hd) hS 19 rfl rfl 8 (by decide) (hts _ fl_X2_takeYears_91) rfl (by decide +kernel) (rfl) (rfl) (Nat.le_of_ble_eq_true rfl) rfl dX2_takeYears_67 (fun H locs hP hS => ?_)
                  refine lv_aload_n hx hb dX2_takeYears_70 rfl (lv_at hl 0 rfl) ?_
                  refine lv_aload_n hx hb dX2_takeYears_71 rfl (lv_at hl 0 rfl) ?_
                  refine an_get (ci := 2) (v := .int (yfi Qy yy)) (C := RX2) (T := TX2) (N := 11) hx hb hts iw_X2_takeYears_X2 hown hK hP 19 rfl rfl 9 (by decide) (hts _ fl_X2_takeYears_94) rfl dX2_takeYears_72 ?_
                  refine lv_bipush (v := ((-9 : Int32))) hx hb dX2_takeYears_75 (by decide) ?_
                  refine lv_icmp_ne (tgt := 85) hx hb dX2_takeYears_77 (by decide) (fun c_77 => ?_) (fun c_77 => ?_)
                  · have c_77 := (not_congr (cv_eq_ii )).mp c_77
                    refine lv_aload_n hx hb dX2_takeYears_85 rfl (lv_at hl 0 rfl) ?_
                    refine an_get (ci := 2) (v := .int (yfi Qy yy)) (C := RX2) (T := TX2) (N := 11) hx hb hts iw_X2_takeYears_X2 hown hK hP 19 rfl rfl 9 (by decide) (hts _ fl_X2_takeYears_94) rfl dX2_takeYears_86 ?_
                    refine ln_toi (y := (yfi Qy (yy + 1))) (yfi_o hQ c_77) ?_
                    refine an_put (ci := 2) (v := .int (yfi Qy (yy + 1))) (ty := .int) (C := RX2) (T := TX2) (N := 11) (ws' := (wX g asked values bytes starts ends length parts texts lengths feet sorts nxt size sums oneSums otherSums byFeet kept over rcount rcust ssums ways nextWays reached nextReached ((nI (ycn Qy (yy + 1)))) ((yfi Qy (yy + 1))) (yla Qy yy))) hx hb hts iw_X2_takeYears_X2 tyX2 tyX2_ok nmX2 hown hK hP (wX_D hd) hS 19 rfl rfl 9 (by decide) (hts _ fl_X2_takeYears_94) rfl (by decide +kernel) (rfl) (rfl) (Nat.le_of_ble_eq_true rfl) rfl dX2_takeYears_89 (fun H locs hP hS => ?_)
                    refine lv_aload_n hx hb dX2_takeYears_92 rfl (lv_at hl 0 rfl) ?_
                    refine lv_iload hx hb dX2_takeYears_93 (lv_at hl 3 rfl) ?_
                    refine ln_toi (y := (yla Qy (yy + 1))) (yla_y hQ) ?_
                    refine an_put (ci := 2) (v := .int (yla Qy (yy + 1))) (ty := .int) (C := RX2) (T := TX2) (N := 11) (ws' := (wX g asked values bytes starts ends length parts texts lengths feet sorts nxt size sums oneSums otherSums byFeet kept over rcount rcust ssums ways nextWays reached nextReached ((nI (ycn Qy (yy + 1)))) ((yfi Qy (yy + 1))) ((yla Qy (yy + 1))))) hx hb hts iw_X2_takeYears_X2 tyX2 tyX2_ok nmX2 hown hK hP (wX_D hd) hS 19 rfl rfl 10 (by decide) (hts _ fl_X2_takeYears_97) rfl (by decide +kernel) (rfl) (rfl) (Nat.le_of_ble_eq_true rfl) rfl dX2_takeYears_95 (fun H locs hP hS => ?_)
                    refine lv_lload_n hx hb dX2_takeYears_98 rfl (lv_at hl 2 rfl) ?_
                    refine lv_iconst (v := (nI (1))) hx hb dX2_takeYears_99 (by decide) ?_
                    refine lv_lushr hx hb dX2_takeYears_100 rfl ?_
                    refine lv_lstore_n (lv' := [(2, .long (((bb).toUInt64 >>> ((nI (1)).toInt64.toUInt64 &&& Int64.toUInt64 63)).toInt64)), (0, .ref (g.2.2 19)), (1, .int (nI (word))), (4, .int (nI (yy)))]) hx hb dX2_takeYears_101 rfl hl (by decide) rfl (fun ls hl => ?_)
                    refine lv_iinc (v := (nI (yy + 1))) (lv' := [(4, .int (nI (yy + 1))), (2, .long (((bb).toUInt64 >>> ((nI (1)).toInt64.toUInt64 &&& Int64.toUInt64 63)).toInt64)), (0, .ref (g.2.2 19)), (1, .int (nI (word)))]) hx hb dX2_takeYears_102 hl (k := 3) rfl (nI_add _ 1) (by decide) rfl (fun ls hl => ?_)
                    refine lv_goto (tgt := 38) hx hb dX2_takeYears_105 (by decide) ?_
                    exact ih_38 (yy + 1) (((bb).toUInt64 >>> ((nI (1)).toInt64.toUInt64 &&& Int64.toUInt64 63)).toInt64) (by omega) (by omega) (by omega) (ty_s hbt h1) (by omega) _ _ hP hS ls (lv_sub hl [2, 3, 1, 0] rfl)
                  · have c_77 := (cv_eq_ii ).mp c_77
                    refine lv_iload hx hb dX2_takeYears_80 (lv_at hl 3 rfl) ?_
                    refine ln_toi (y := (yfi Qy (yy + 1))) (yfi_f hQ c_77) ?_
                    refine lv_goto (tgt := 89) hx hb dX2_takeYears_82 (by decide) ?_
                    refine an_put (ci := 2) (v := .int (yfi Qy (yy + 1))) (ty := .int) (C := RX2) (T := TX2) (N := 11) (ws' := (wX g asked values bytes starts ends length parts texts lengths feet sorts nxt size sums oneSums otherSums byFeet kept over rcount rcust ssums ways nextWays reached nextReached ((nI (ycn Qy (yy + 1)))) ((yfi Qy (yy + 1))) (yla Qy yy))) hx hb hts iw_X2_takeYears_X2 tyX2 tyX2_ok nmX2 hown hK hP (wX_D hd) hS 19 rfl rfl 9 (by decide) (hts _ fl_X2_takeYears_94) rfl (by decide +kernel) (rfl) (rfl) (Nat.le_of_ble_eq_true rfl) rfl dX2_takeYears_89 (fun H locs hP hS => ?_)
                    refine lv_aload_n hx hb dX2_takeYears_92 rfl (lv_at hl 0 rfl) ?_
                    refine lv_iload hx hb dX2_takeYears_93 (lv_at hl 3 rfl) ?_
                    refine ln_toi (y := (yla Qy (yy + 1))) (yla_y hQ) ?_
                    refine an_put (ci := 2) (v := .int (yla Qy (yy + 1))) (ty := .int) (C := RX2) (T := TX2) (N := 11) (ws' := (wX g asked values bytes starts ends length parts texts lengths feet sorts nxt size sums oneSums otherSums byFeet kept over rcount rcust ssums ways nextWays reached nextReached ((nI (ycn Qy (yy + 1)))) ((yfi Qy (yy + 1))) ((yla Qy (yy + 1))))) hx hb hts iw_X2_takeYears_X2 tyX2 tyX2_ok nmX2 hown hK hP (wX_D hd) hS 19 rfl rfl 10 (by decide) (hts _ fl_X2_takeYears_97) rfl (by decide +kernel) (rfl) (rfl) (Nat.le_of_ble_eq_true rfl) rfl dX2_takeYears_95 (fun H locs hP hS => ?_)
                    refine lv_lload_n hx hb dX2_takeYears_98 rfl (lv_at hl 2 rfl) ?_
                    refine lv_iconst (v := (nI (1))) hx hb dX2_takeYears_99 (by decide) ?_
                    refine lv_lushr hx hb dX2_takeYears_100 rfl ?_
                    refine lv_lstore_n (lv' := [(2, .long (((bb).toUInt64 >>> ((nI (1)).toInt64.toUInt64 &&& Int64.toUInt64 63)).toInt64)), (0, .ref (g.2.2 19)), (1, .int (nI (word))), (4, .int (nI (yy)))]) hx hb dX2_takeYears_101 rfl hl (by decide) rfl (fun ls hl => ?_)
                    refine lv_iinc (v := (nI (yy + 1))) (lv' := [(4, .int (nI (yy + 1))), (2, .long (((bb).toUInt64 >>> ((nI (1)).toInt64.toUInt64 &&& Int64.toUInt64 63)).toInt64)), (0, .ref (g.2.2 19)), (1, .int (nI (word)))]) hx hb dX2_takeYears_102 hl (k := 3) rfl (nI_add _ 1) (by decide) rfl (fun ls hl => ?_)
                    refine lv_goto (tgt := 38) hx hb dX2_takeYears_105 (by decide) ?_
                    exact ih_38 (yy + 1) (((bb).toUInt64 >>> ((nI (1)).toInt64.toUInt64 &&& Int64.toUInt64 63)).toInt64) (by omega) (by omega) (by omega) (ty_s hbt h1) (by omega) _ _ hP hS ls (lv_sub hl [2, 3, 1, 0] rfl)
        exact lp_38 (3001 - ((word * 64)) + 1) (word * 64) (bo reached word k) (by omega) (by omega) (by omega) (fun j => by rw [show k = 3 by omega, show word * 64 - 64 * word + j = j by omega]) (Nat.lt_succ_self _) _ _ hP hS ls (lv_sub hl [1, 2, 3, 0] rfl)
      · have c_8 := (not_congr (cv_le_nn (by omega) (by omega))).mp c_8
        refine lv_lload_n hx hb dX2_takeYears_11 rfl (lv_at hl 2 rfl) ?_
        refine lv_aload_n hx hb dX2_takeYears_12 rfl (lv_at hl 0 rfl) ?_
        refine an_get (ci := 2) (v := .ref (g.2.2 23)) (C := RX2) (T := TX2) (N := 11) hx hb hts iw_X2_takeYears_X2 hown hK hP 19 rfl rfl 6 (by decide) (hts _ fl_X2_takeYears_22) rfl dX2_takeYears_13 ?_
        refine lv_iload hx hb dX2_takeYears_16 (lv_at hl 3 rfl) ?_
        refine lv_bipush (v := (nI (47))) hx hb dX2_takeYears_18 (by decide) ?_
        refine ln_imul hx hb dX2_takeYears_20 ?_
        refine lv_iload_n hx hb dX2_takeYears_21 rfl (lv_at hl 1 rfl) ?_
        refine ln_iadd hx hb dX2_takeYears_22 ?_
        refine an_lald (f := reached) hx hb hK hP 23 1 rfl rfl (by decide) (by omega) dX2_takeYears_23 ?_
        refine lv_lor hx hb dX2_takeYears_24 ?_
        refine ln_tol (y := (bo reached word (k + 1))) (rfl) ?_
        refine lv_lstore_n (lv' := [(2, .long (bo reached word (k + 1))), (0, .ref (g.2.2 19)), (1, .int (nI (word))), (4, .int (nI (k)))]) hx hb dX2_takeYears_25 rfl hl (by decide) rfl (fun ls hl => ?_)
        refine lv_iinc (v := (nI (k + 1))) (lv' := [(4, .int (nI (k + 1))), (2, .long (bo reached word (k + 1))), (0, .ref (g.2.2 19)), (1, .int (nI (word)))]) hx hb dX2_takeYears_26 hl (k := 3) rfl (nI_add _ 1) (by decide) rfl (fun ls hl => ?_)
        refine lv_goto (tgt := 5) hx hb dX2_takeYears_29 (by decide) ?_
        exact ih_5 (k + 1) (by omega) (by omega) _ _ hP hS ls (lv_sub hl [2, 3, 1, 0] rfl)
  exact lp_5 (3 - (0) + 1) 0 (Nat.zero_le _) (Nat.lt_succ_self _) _ _ hP hS ls (lv_sub hl [2, 3, 1, 0] rfl)
theorem iw_X2_findYears_X1 : ∀ w ∈ u_ws RX1 TX1 5, w ∈ wsX2_findYears := by decide +kernel
theorem iw_X2_findYears_X2 : ∀ w ∈ u_ws RX2 TX2 11, w ∈ wsX2_findYears := by decide +kernel
theorem fl_X2_findYears_11 : Cond.fieldLink RX2 11 (TX2 3).1 (TX2 3).2.1 (TX2 3).2.2.1 ∈ wsX2_findYears := by decide +kernel
theorem fl_X2_findYears_22 : Cond.fieldLink RX2 22 (TX2 6).1 (TX2 6).2.1 (TX2 6).2.2.1 ∈ wsX2_findYears := by decide +kernel
theorem fl_X2_findYears_28 : Cond.fieldLink RX2 28 (TX2 0).1 (TX2 0).2.1 (TX2 0).2.2.1 ∈ wsX2_findYears := by decide +kernel
theorem fl_X2_findYears_32 : Cond.fieldLink RX2 32 (TX2 1).1 (TX2 1).2.1 (TX2 1).2.2.1 ∈ wsX2_findYears := by decide +kernel
theorem fl_X2_findYears_36 : Cond.fieldLink RX2 36 (TX2 2).1 (TX2 2).2.1 (TX2 2).2.2.1 ∈ wsX2_findYears := by decide +kernel
theorem fl_X2_findYears_56 : Cond.fieldLink RX2 56 (TX1 4).1 (TX1 4).2.1 (TX1 4).2.2.1 ∈ wsX2_findYears := by decide +kernel
theorem fl_X2_findYears_91 : Cond.fieldLink RX2 91 (TX2 8).1 (TX2 8).2.1 (TX2 8).2.2.1 ∈ wsX2_findYears := by decide +kernel
theorem fl_X2_findYears_94 : Cond.fieldLink RX2 94 (TX2 9).1 (TX2 9).2.1 (TX2 9).2.2.1 ∈ wsX2_findYears := by decide +kernel
theorem fl_X2_findYears_97 : Cond.fieldLink RX2 97 (TX2 10).1 (TX2 10).2.1 (TX2 10).2.2.1 ∈ wsX2_findYears := by decide +kernel
set_option maxHeartbeats 200000 in
set_option maxRecDepth 100000 in
theorem c_X2_findYears (l : Launch) {g : GW} {asked : Int64} {values : Nat → Int32} {bytes : Nat → Int32} {starts : Nat → Int32} {ends : Nat → Int32} {L : Nat} {pt : Nat} {texts : Nat → Int32} {lengths : Nat → Int32} {feet : Nat → Int32} {sorts : Nat → Int32} {nxt : Nat → Int32} {nv : Nat} {sums : Nat → Int32} {oneSums : Nat → Int32} {otherSums : Nat → Int32} {byFeet : Nat → Int64} {kept : Nat → Int64} {over : Int32} {rcount : Int32} {rcust : Int32} {ssums : Nat → Int32} {ways : Nat → Int64} {nextWays : Nat → Int64} {reached : Nat → Int64} {nextReached : Nat → Int64} {found : Int32} {least : Int32} {greatest : Int32} {sz : Nat} (counting : Nat) (custom : Nat) (hc : counting < 3) (hk : custom < 4) (hpt : pt = pn bytes L) (hnv : nv ≤ 10) (hL2 : L ≤ 40) (hrow : prow bytes L starts ends) (hle : okV lengths nv 1 8) (hso : okV sorts nv 0 2) (hva : okV values 104 0 1000) (hd : dW 25 g.2.2) : Met l yX2_findYears wsX2_findYears ({ frames := 5, cells := 0, slots := 0, locals := 118 }) (va_Pc ([.ref (g.2.2 19), .int (nI (counting)), .int (nI (custom))]) (qW g (wX g asked values bytes starts ends (nI (L)) (nI (pt)) texts lengths feet sorts nxt (nI (nv)) sums oneSums otherSums byFeet kept over rcount rcust ssums ways nextWays reached nextReached found least greatest) sz)) (va_Qv (fun (z : (Nat → Int32) × (Nat → Int64) × (Nat → Int64) × Int32 × Int32 × Int32) => z.2.2.2.1 = nI (ycn (yq bytes texts lengths sorts nxt (owf values texts lengths counting custom) L nv (pn bytes L)) 3001) ∧ z.2.2.2.2.1 = yfi (yq bytes texts lengths sorts nxt (owf values texts lengths counting custom) L nv (pn bytes L)) 3001 ∧ z.2.2.2.2.2 = yla (yq bytes texts lengths sorts nxt (owf values texts lengths counting custom) L nv (pn bytes L)) 3001) (fun (z : (Nat → Int32) × (Nat → Int64) × (Nat → Int64) × Int32 × Int32 × Int32) (t : State) => va_P g.1 vwCl (wX g asked values bytes starts ends (nI (L)) (nI (pt)) texts lengths feet sorts nxt (nI (nv)) sums oneSums otherSums byFeet kept over rcount rcust (z.1) ways nextWays (z.2.1) (z.2.2.1) (z.2.2.2.1) (z.2.2.2.2.1) (z.2.2.2.2.2)) t.heap) (aW 25 g.2.2 sz)) 0 0 (aW 25 g.2.2 sz) := by
  refine Met.ofW (cc := cX2_findYears) (maxL := 4) (ret := none) (by decide) rfl ?_
  intro p e s m args below meth c s₁ B hml hv
  obtain ⟨rfl, hsz9, hP, hK, hN⟩ := hv
  subst hsz9
  have hx := B.exec
  have hb := B.bytes
  have hr := B.returns
  have hts := atoms_spec (ws := wsX2_findYears) B.pre
  have hown : s.vm.findClass RX2 = some m.cls := findClass_of_methodNamed B.named
  have hlocks := B.notSynchronized
  have hS : va_S (aW 25 g.2.2 s.heap.size) s.heap s.heap [] := va_S.rf
  have hl := lv_entry ([.ref (g.2.2 19), .int (nI (counting)), .int (nI (custom))]) (n := 4) (Nat.le_of_ble_eq_true rfl)
  rw [lg_entry_eq]
  generalize (lg_sl ([.ref (g.2.2 19), .int (nI (counting)), .int (nI (custom))]) ++ List.replicate (4 - (lg_sl ([.ref (g.2.2 19), .int (nI (counting)), .int (nI (custom))])).length) Slot.unset).toArray = ls at hl ⊢
  have hl : lv_has ls 4 [(0, .ref (g.2.2 19)), (1, .int (nI (counting))), (2, .int (nI (custom)))] := hl
  have hp20 := pn_room bytes L
  refine lv_aload_n hx hb dX2_findYears_0 rfl (lv_at hl 0 rfl) ?_
  refine an_get (ci := 2) (v := .ref (g.2.2 7)) (C := RX2) (T := TX2) (N := 11) hx hb hts iw_X2_findYears_X2 hown hK hP 19 rfl rfl 1 (by decide) (hts _ fl_X2_findYears_32) rfl dX2_findYears_1 ?_
  refine lv_aload_n hx hb dX2_findYears_4 rfl (lv_at hl 0 rfl) ?_
  refine an_get (ci := 2) (v := .ref (g.2.2 20)) (C := RX2) (T := TX2) (N := 11) hx hb hts iw_X2_findYears_X2 hown hK hP 19 rfl rfl 3 (by decide) (hts _ fl_X2_findYears_11) rfl dX2_findYears_5 ?_
  refine lv_aload_n hx hb dX2_findYears_8 rfl (lv_at hl 0 rfl) ?_
  refine an_get (ci := 2) (v := .ref (g.2.2 1)) (C := RX2) (T := TX2) (N := 11) hx hb hts iw_X2_findYears_X2 hown hK hP 19 rfl rfl 2 (by decide) (hts _ fl_X2_findYears_36) rfl dX2_findYears_9 ?_
  refine lv_iload_n hx hb dX2_findYears_12 rfl (lv_at hl 1 rfl) ?_
  refine lv_iload_n hx hb dX2_findYears_13 rfl (lv_at hl 2 rfl) ?_
  refine wr_callv (w := (fun (z : (Nat → Int32)) => (wX g asked values bytes starts ends (nI (L)) (nI (pt)) texts lengths feet sorts nxt (nI (nv)) sums oneSums otherSums byFeet kept over rcount rcust z ways nextWays reached nextReached found least greatest))) (va_runV (As := [.ref (g.2.2 20), .ref (g.2.2 1), .int (nI (counting)), .int (nI (custom))]) (rest := []) ⟨hx, hb, hml, hown, hts⟩ (c_X4_putSums_ssums l (g := g) (asked := asked) (values := values) (bytes := bytes) (starts := starts) (ends := ends) (length := nI (L)) (parts := nI (pt)) (texts := texts) (lengths := lengths) (feet := feet) (sorts := sorts) (nxt := nxt) (nv := nv) (sums := sums) (oneSums := oneSums) (otherSums := otherSums) (byFeet := byFeet) (kept := kept) (over := over) (rcount := rcount) (rcust := rcust) (ssums := ssums) (ways := ways) (nextWays := nextWays) (reached := reached) (nextReached := nextReached) (found := found) (least := least) (greatest := greatest) (sz := _) (counting) (custom) hc hk hnv hle hd) (cwV 4 hts gX2_findYears_X4_putSums rfl rfl rfl (by decide +kernel) ⟨Nat.le_of_ble_eq_true rfl, Nat.le_of_ble_eq_true rfl⟩) (pre_V qW_bl (va_recv hK hP (ci := 4) (q0 := 7) rfl rfl) (fun U hU hW => ⟨by rw [hU], pW_of hP hK hN hU hW⟩)) rfl rfl hl.1 rfl (lv_room (Nat.le_of_ble_eq_true rfl)) dX2_findYears_14 ⟨Nat.zero_le _, Nat.zero_le _⟩) hS (fun ssums14 H locs hp14 hP hS => ?_)
  have hP : va_P g.1 vwCl (wX g asked values bytes starts ends (nI (L)) (nI (pt)) texts lengths feet sorts nxt (nI (nv)) sums oneSums otherSums byFeet kept over rcount rcust ssums14 ways nextWays reached nextReached found least greatest) H := hP
  have hq1 : ∀ v, v < nv → ssums14 v = nI ((owf values texts lengths counting custom) v) ∧ (owf values texts lengths counting custom) v ≤ 8000 := fun v hv => ⟨(hp14 v hv).trans (vsm_ok hva hk hle hv).1, (vsm_ok (tx := texts) (n := counting) hva hk hle hv).2⟩
  refine lv_aload_n hx hb dX2_findYears_17 rfl (lv_at hl 0 rfl) ?_
  refine an_get (ci := 2) (v := .ref (g.2.2 23)) (C := RX2) (T := TX2) (N := 11) hx hb hts iw_X2_findYears_X2 hown hK hP 19 rfl rfl 6 (by decide) (hts _ fl_X2_findYears_22) rfl dX2_findYears_18 ?_
  refine lv_lconst (v := (lN (0))) hx hb dX2_findYears_21 (by decide) ?_
  refine wr_callv (w := (fun (z : (Nat → Int64)) => (wX g asked values bytes starts ends (nI (L)) (nI (pt)) texts lengths feet sorts nxt (nI (nv)) sums oneSums otherSums byFeet kept over rcount rcust ssums14 ways nextWays z nextReached found least greatest))) (va_runS (As := [.ref (g.2.2 23), .long (lN (0))]) (rest := []) ⟨hx, hb, hml, hown, hts⟩ (c_J7_fill_reached l (g := g) (asked := asked) (values := values) (bytes := bytes) (starts := starts) (ends := ends) (length := nI (L)) (parts := nI (pt)) (texts := texts) (lengths := lengths) (feet := feet) (sorts := sorts) (nxt := nxt) (size := nI (nv)) (sums := sums) (oneSums := oneSums) (otherSums := otherSums) (byFeet := byFeet) (kept := kept) (over := over) (rcount := rcount) (rcust := rcust) (ssums := ssums14) (ways := ways) (nextWays := nextWays) (reached := reached) (nextReached := nextReached) (found := found) (least := least) (greatest := greatest) (sz := _) (0) hd) (va_cwS 2 hts gX2_findYears_J7_fill_d0a16 rfl rfl rfl (by decide +kernel) ⟨Nat.le_of_ble_eq_true rfl, Nat.le_of_ble_eq_true rfl⟩) (pre_S qW_bl (fun U hU hW => ⟨by rw [hU], pW_of hP hK hN hU hW⟩)) rfl rfl hl.1 rfl (lv_room (Nat.le_of_ble_eq_true rfl)) dX2_findYears_22 ⟨Nat.zero_le _, Nat.zero_le _⟩) hS (fun reached22 H locs hp22 hP hS => ?_)
  have hP : va_P g.1 vwCl (wX g asked values bytes starts ends (nI (L)) (nI (pt)) texts lengths feet sorts nxt (nI (nv)) sums oneSums otherSums byFeet kept over rcount rcust ssums14 ways nextWays reached22 nextReached found least greatest) H := hP
  refine lv_aload_n hx hb dX2_findYears_25 rfl (lv_at hl 0 rfl) ?_
  refine an_get (ci := 2) (v := .ref (g.2.2 23)) (C := RX2) (T := TX2) (N := 11) hx hb hts iw_X2_findYears_X2 hown hK hP 19 rfl rfl 6 (by decide) (hts _ fl_X2_findYears_22) rfl dX2_findYears_26 ?_
  refine lv_sipush (v := (nI (141))) hx hb dX2_findYears_29 (by decide) ?_
  refine lv_lconst (v := (lN (1))) hx hb dX2_findYears_32 (by decide) ?_
  refine an_last (f := reached22) (ws' := (wX g asked values bytes starts ends (nI (L)) (nI (pt)) texts lengths feet sorts nxt (nI (nv)) sums oneSums otherSums byFeet kept over rcount rcust ssums14 ways nextWays (vp_updL (reached22) (141) (lN (1))) nextReached found least greatest)) hx hb hK hP (wX_D hd) hS 23 1 rfl rfl (by decide) (by omega) rfl dX2_findYears_33 (fun H locs hP hS => ?_)
  refine lv_iconst (v := (nI (0))) hx hb dX2_findYears_34 (by decide) ?_
  refine lv_istore_n (lv' := [(3, .int (nI (0))), (0, .ref (g.2.2 19)), (1, .int (nI (counting))), (2, .int (nI (custom)))]) hx hb dX2_findYears_35 rfl hl (by decide) rfl (fun ls hl => ?_)
  have lp_36 : ∀ (n : Nat) (i : Nat) (u : Nat → Int64) (u2 : Nat → Int64), (i ≤ pt) → (yrW u bytes texts lengths sorts nxt (owf values texts lengths counting custom) L nv i) → pt - i < n → ∀ (H : Heap) (locs : List Loc), va_P g.1 vwCl (wX g asked values bytes starts ends (nI (L)) (nI (pt)) texts lengths feet sorts nxt (nI (nv)) sums oneSums otherSums byFeet kept over rcount rcust ssums14 ways nextWays u u2 found least greatest) H → va_S (aW 25 g.2.2 s.heap.size) s.heap H locs → ∀ (ls : Array Slot), lv_has ls 4 [(0, .ref (g.2.2 19)), (1, .int (nI (counting))), (2, .int (nI (custom))), (3, .int (nI (i)))] → W p l e (headSpec wsX2_findYears ({ frames := 5, cells := 0, slots := 0, locals := 118 })).room s m (([.ref (g.2.2 19), .int (nI (counting)), .int (nI (custom))] : List Value).toArray) below meth c H locs 0 0 (MQ below (va_Qv (fun (z : (Nat → Int32) × (Nat → Int64) × (Nat → Int64) × Int32 × Int32 × Int32) => z.2.2.2.1 = nI (ycn (yq bytes texts lengths sorts nxt (owf values texts lengths counting custom) L nv (pn bytes L)) 3001) ∧ z.2.2.2.2.1 = yfi (yq bytes texts lengths sorts nxt (owf values texts lengths counting custom) L nv (pn bytes L)) 3001 ∧ z.2.2.2.2.2 = yla (yq bytes texts lengths sorts nxt (owf values texts lengths counting custom) L nv (pn bytes L)) 3001) (fun (z : (Nat → Int32) × (Nat → Int64) × (Nat → Int64) × Int32 × Int32 × Int32) (t : State) => va_P g.1 vwCl (wX g asked values bytes starts ends (nI (L)) (nI (pt)) texts lengths feet sorts nxt (nI (nv)) sums oneSums otherSums byFeet kept over rcount rcust (z.1) ways nextWays (z.2.1) (z.2.2.1) (z.2.2.2.1) (z.2.2.2.2.1) (z.2.2.2.2.2)) t.heap) (aW 25 g.2.2 s.heap.size)) (([.ref (g.2.2 19), .int (nI (counting)), .int (nI (custom))] : List Value).toArray) s 0 0 (aW 25 g.2.2 s.heap.size)) (F0 m 36 ls []) := by
    intro n
    induction n with
    | zero => intro i u u2 hi hu hm; exact absurd hm (Nat.not_lt_zero _)
    | succ n ih_36 =>
      intro i u u2 hi hu hm_36 H locs hP hS ls hl
      refine lv_iload_n hx hb dX2_findYears_36 rfl (lv_at hl 3 rfl) ?_
      refine lv_aload_n hx hb dX2_findYears_37 rfl (lv_at hl 0 rfl) ?_
      refine an_get (ci := 2) (v := .ref (g.2.2 3)) (C := RX2) (T := TX2) (N := 11) hx hb hts iw_X2_findYears_X2 hown hK hP 19 rfl rfl 0 (by decide) (hts _ fl_X2_findYears_28) rfl dX2_findYears_38 ?_
      refine an_get (ci := 1) (v := .int (nI (pt))) (C := RX1) (T := TX1) (N := 5) hx hb hts iw_X2_findYears_X1 hown hK hP 3 rfl rfl 4 (by decide) (hts _ fl_X2_findYears_56) rfl dX2_findYears_41 ?_
      refine lv_icmp_ge (tgt := 58) hx hb dX2_findYears_44 (by decide) (fun c_44 => ?_) (fun c_44 => ?_)
      · have c_44 := (cv_le_nn (by omega) (by omega)).mp c_44
        have ei : i = pt := by omega
        rw [ei] at hu
        refine lv_aload_n hx hb dX2_findYears_58 rfl (lv_at hl 0 rfl) ?_
        refine lv_iconst (v := (nI (0))) hx hb dX2_findYears_59 (by decide) ?_
        refine an_put (ci := 2) (v := .int (nI (0))) (ty := .int) (C := RX2) (T := TX2) (N := 11) (ws' := (wX g asked values bytes starts ends (nI (L)) (nI (pt)) texts lengths feet sorts nxt (nI (nv)) sums oneSums otherSums byFeet kept over rcount rcust ssums14 ways nextWays u u2 ((nI (0))) least greatest)) hx hb hts iw_X2_findYears_X2 tyX2 tyX2_ok nmX2 hown hK hP (wX_D hd) hS 19 rfl rfl 8 (by decide) (hts _ fl_X2_findYears_91) rfl (by decide +kernel) (rfl) (rfl) (Nat.le_of_ble_eq_true rfl) rfl dX2_findYears_60 (fun H locs hP hS => ?_)
        refine lv_aload_n hx hb dX2_findYears_63 rfl (lv_at hl 0 rfl) ?_
        refine lv_bipush (v := ((-9 : Int32))) hx hb dX2_findYears_64 (by decide) ?_
        refine an_put (ci := 2) (v := .int ((-9 : Int32))) (ty := .int) (C := RX2) (T := TX2) (N := 11) (ws' := (wX g asked values bytes starts ends (nI (L)) (nI (pt)) texts lengths feet sorts nxt (nI (nv)) sums oneSums otherSums byFeet kept over rcount rcust ssums14 ways nextWays u u2 ((nI (0))) (((-9 : Int32))) greatest)) hx hb hts iw_X2_findYears_X2 tyX2 tyX2_ok nmX2 hown hK hP (wX_D hd) hS 19 rfl rfl 9 (by decide) (hts _ fl_X2_findYears_94) rfl (by decide +kernel) (rfl) (rfl) (Nat.le_of_ble_eq_true rfl) rfl dX2_findYears_66 (fun H locs hP hS => ?_)
        refine lv_aload_n hx hb dX2_findYears_69 rfl (lv_at hl 0 rfl) ?_
        refine lv_bipush (v := ((-9 : Int32))) hx hb dX2_findYears_70 (by decide) ?_
        refine an_put (ci := 2) (v := .int ((-9 : Int32))) (ty := .int) (C := RX2) (T := TX2) (N := 11) (ws' := (wX g asked values bytes starts ends (nI (L)) (nI (pt)) texts lengths feet sorts nxt (nI (nv)) sums oneSums otherSums byFeet kept over rcount rcust ssums14 ways nextWays u u2 ((nI (0))) (((-9 : Int32))) (((-9 : Int32))))) hx hb hts iw_X2_findYears_X2 tyX2 tyX2_ok nmX2 hown hK hP (wX_D hd) hS 19 rfl rfl 10 (by decide) (hts _ fl_X2_findYears_97) rfl (by decide +kernel) (rfl) (rfl) (Nat.le_of_ble_eq_true rfl) rfl dX2_findYears_72 (fun H locs hP hS => ?_)
        refine lv_iconst (v := (nI (0))) hx hb dX2_findYears_75 (by decide) ?_
        refine lv_istore_n (lv' := [(3, .int (nI (0))), (0, .ref (g.2.2 19)), (1, .int (nI (counting))), (2, .int (nI (custom)))]) hx hb dX2_findYears_76 rfl hl (by decide) rfl (fun ls hl => ?_)
        have lp_77 : ∀ (n : Nat) (k : Nat) (a9 : Nat), (k ≤ 47) → (a9 = min (64 * k) 3001) → 47 - k < n → ∀ (H : Heap) (locs : List Loc), va_P g.1 vwCl (wX g asked values bytes starts ends (nI (L)) (nI (pt)) texts lengths feet sorts nxt (nI (nv)) sums oneSums otherSums byFeet kept over rcount rcust ssums14 ways nextWays u u2 (nI (ycn (yq bytes texts lengths sorts nxt (owf values texts lengths counting custom) L nv pt) a9)) (yfi (yq bytes texts lengths sorts nxt (owf values texts lengths counting custom) L nv pt) a9) (yla (yq bytes texts lengths sorts nxt (owf values texts lengths counting custom) L nv pt) a9)) H → va_S (aW 25 g.2.2 s.heap.size) s.heap H locs → ∀ (ls : Array Slot), lv_has ls 4 [(0, .ref (g.2.2 19)), (1, .int (nI (counting))), (2, .int (nI (custom))), (3, .int (nI (k)))] → W p l e (headSpec wsX2_findYears ({ frames := 5, cells := 0, slots := 0, locals := 118 })).room s m (([.ref (g.2.2 19), .int (nI (counting)), .int (nI (custom))] : List Value).toArray) below meth c H locs 0 0 (MQ below (va_Qv (fun (z : (Nat → Int32) × (Nat → Int64) × (Nat → Int64) × Int32 × Int32 × Int32) => z.2.2.2.1 = nI (ycn (yq bytes texts lengths sorts nxt (owf values texts lengths counting custom) L nv (pn bytes L)) 3001) ∧ z.2.2.2.2.1 = yfi (yq bytes texts lengths sorts nxt (owf values texts lengths counting custom) L nv (pn bytes L)) 3001 ∧ z.2.2.2.2.2 = yla (yq bytes texts lengths sorts nxt (owf values texts lengths counting custom) L nv (pn bytes L)) 3001) (fun (z : (Nat → Int32) × (Nat → Int64) × (Nat → Int64) × Int32 × Int32 × Int32) (t : State) => va_P g.1 vwCl (wX g asked values bytes starts ends (nI (L)) (nI (pt)) texts lengths feet sorts nxt (nI (nv)) sums oneSums otherSums byFeet kept over rcount rcust (z.1) ways nextWays (z.2.1) (z.2.2.1) (z.2.2.2.1) (z.2.2.2.2.1) (z.2.2.2.2.2)) t.heap) (aW 25 g.2.2 s.heap.size)) (([.ref (g.2.2 19), .int (nI (counting)), .int (nI (custom))] : List Value).toArray) s 0 0 (aW 25 g.2.2 s.heap.size)) (F0 m 77 ls []) := by
          intro n
          induction n with
          | zero => intro k a9 hk7 ha hm; exact absurd hm (Nat.not_lt_zero _)
          | succ n ih_77 =>
            intro k a9 hk7 ha hm_77 H locs hP hS ls hl
            refine lv_iload_n hx hb dX2_findYears_77 rfl (lv_at hl 3 rfl) ?_
            refine lv_bipush (v := (nI (47))) hx hb dX2_findYears_78 (by decide) ?_
            refine lv_icmp_ge (tgt := 94) hx hb dX2_findYears_80 (by decide) (fun c_80 => ?_) (fun c_80 => ?_)
            · have c_80 := (cv_le_nn (by omega) (by omega)).mp c_80
              exact wr_vret (ssums14, u, u2, nI (ycn (yq bytes texts lengths sorts nxt (owf values texts lengths counting custom) L nv pt) a9), yfi (yq bytes texts lengths sorts nxt (owf values texts lengths counting custom) L nv pt) a9, yla (yq bytes texts lengths sorts nxt (owf values texts lengths counting custom) L nv pt) a9) hx hb hr hlocks (by rw [← hpt, show a9 = 3001 by omega]; exact ⟨rfl, rfl, rfl⟩) (fun t ht => show va_P g.1 vwCl (wX g asked values bytes starts ends (nI (L)) (nI (pt)) texts lengths feet sorts nxt (nI (nv)) sums oneSums otherSums byFeet kept over rcount rcust ssums14 ways nextWays u u2 (nI (ycn (yq bytes texts lengths sorts nxt (owf values texts lengths counting custom) L nv pt) a9)) (yfi (yq bytes texts lengths sorts nxt (owf values texts lengths counting custom) L nv pt) a9) (yla (yq bytes texts lengths sorts nxt (owf values texts lengths counting custom) L nv pt) a9)) t.heap by rw [ht]; exact hP) hS dX2_findYears_94
            · have c_80 := (not_congr (cv_le_nn (by omega) (by omega))).mp c_80
              refine lv_aload_n hx hb dX2_findYears_83 rfl (lv_at hl 0 rfl) ?_
              refine lv_iload_n hx hb dX2_findYears_84 rfl (lv_at hl 3 rfl) ?_
              refine wr_callv (w := (fun (z : Int32 × Int32 × Int32) => (wX g asked values bytes starts ends (nI (L)) (nI (pt)) texts lengths feet sorts nxt (nI (nv)) sums oneSums otherSums byFeet kept over rcount rcust ssums14 ways nextWays u u2 (z.1) (z.2.1) (z.2.2)))) (va_runV (As := [.int (nI (k))]) (rest := []) ⟨hx, hb, hml, hown, hts⟩ (c_X2_takeYears l (g := g) (asked := asked) (values := values) (bytes := bytes) (starts := starts) (ends := ends) (length := nI (L)) (parts := nI (pt)) (texts := texts) (lengths := lengths) (feet := feet) (sorts := sorts) (nxt := nxt) (size := nI (nv)) (sums := sums) (oneSums := oneSums) (otherSums := otherSums) (byFeet := byFeet) (kept := kept) (over := over) (rcount := rcount) (rcust := rcust) (ssums := ssums14) (ways := ways) (nextWays := nextWays) (reached := u) (nextReached := u2) (found := nI (ycn (yq bytes texts lengths sorts nxt (owf values texts lengths counting custom) L nv pt) a9)) (least := yfi (yq bytes texts lengths sorts nxt (owf values texts lengths counting custom) L nv pt) a9) (greatest := yla (yq bytes texts lengths sorts nxt (owf values texts lengths counting custom) L nv pt) a9) (sz := _) (k) (yq bytes texts lengths sorts nxt (owf values texts lengths counting custom) L nv pt) (by omega) (fun j hj => bo_b hu (by omega) hj) (by rw [show a9 = 64 * k by omega]) (by rw [show a9 = 64 * k by omega]) (by rw [show a9 = 64 * k by omega]) hd) (cwV 1 hts gX2_findYears_X2_takeYears rfl rfl rfl (by decide +kernel) ⟨Nat.le_of_ble_eq_true rfl, Nat.le_of_ble_eq_true rfl⟩) (pre_V qW_bl (va_recv hK hP (ci := 2) (q0 := 19) rfl rfl) (fun U hU hW => ⟨by rw [hU], pW_of hP hK hN hU hW⟩)) rfl rfl hl.1 rfl (lv_room (Nat.le_of_ble_eq_true rfl)) dX2_findYears_85 ⟨Nat.zero_le _, Nat.zero_le _⟩) hS (fun z85 H locs hp85 hP hS => ?_)
              obtain ⟨found85, least85, greatest85⟩ := z85
              try dsimp only at hp85
              have hP : va_P g.1 vwCl (wX g asked values bytes starts ends (nI (L)) (nI (pt)) texts lengths feet sorts nxt (nI (nv)) sums oneSums otherSums byFeet kept over rcount rcust ssums14 ways nextWays u u2 found85 least85 greatest85) H := hP
              refine lv_iinc (v := (nI (k + 1))) (lv' := [(3, .int (nI (k + 1))), (0, .ref (g.2.2 19)), (1, .int (nI (counting))), (2, .int (nI (custom)))]) hx hb dX2_findYears_88 hl (k := 3) rfl (nI_add _ 1) (by decide) rfl (fun ls hl => ?_)
              refine lv_goto (tgt := 77) hx hb dX2_findYears_91 (by decide) ?_
              rw [hp85.1, hp85.2.1, hp85.2.2] at hP
              exact ih_77 (k + 1) (min (64 * k + 64) 3001) (by omega) (by omega) (by omega) _ _ hP hS ls (lv_sub hl [1, 2, 3, 0] rfl)
        exact lp_77 (47 - (0) + 1) 0 0 (Nat.zero_le _) (by omega) (Nat.lt_succ_self _) _ _ hP hS ls (lv_sub hl [1, 2, 3, 0] rfl)
      · have c_44 := (not_congr (cv_le_nn (by omega) (by omega))).mp c_44
        refine lv_aload_n hx hb dX2_findYears_47 rfl (lv_at hl 0 rfl) ?_
        refine lv_iload_n hx hb dX2_findYears_48 rfl (lv_at hl 3 rfl) ?_
        refine wr_callv (w := (fun (z : (Nat → Int64) × (Nat → Int64)) => (wX g asked values bytes starts ends (nI (L)) (nI (pt)) texts lengths feet sorts nxt (nI (nv)) sums oneSums otherSums byFeet kept over rcount rcust ssums14 ways nextWays (z.1) (z.2) found least greatest))) (va_runV (As := [.int (nI (i))]) (rest := []) ⟨hx, hb, hml, hown, hts⟩ (c_X2_reachOverPart l (g := g) (asked := asked) (values := values) (bytes := bytes) (starts := starts) (ends := ends) (L := L) (parts := nI (pt)) (texts := texts) (lengths := lengths) (feet := feet) (sorts := sorts) (nxt := nxt) (nv := nv) (sums := sums) (oneSums := oneSums) (otherSums := otherSums) (byFeet := byFeet) (kept := kept) (over := over) (rcount := rcount) (rcust := rcust) (ssums := ssums14) (ways := ways) (nextWays := nextWays) (reached := u) (nextReached := u2) (found := found) (least := least) (greatest := greatest) (sz := _) (i) (by omega) hnv hL2 hrow hle hso (owf values texts lengths counting custom) hq1 hd) (cwV 1 hts gX2_findYears_X2_reachOverPart rfl rfl rfl (by decide +kernel) ⟨Nat.le_of_ble_eq_true rfl, Nat.le_of_ble_eq_true rfl⟩) (pre_V qW_bl (va_recv hK hP (ci := 2) (q0 := 19) rfl rfl) (fun U hU hW => ⟨by rw [hU], pW_of hP hK hN hU hW⟩)) rfl rfl hl.1 rfl (lv_room (Nat.le_of_ble_eq_true rfl)) dX2_findYears_49 ⟨Nat.zero_le _, Nat.zero_le _⟩) hS (fun z49 H locs hp49 hP hS => ?_)
        obtain ⟨reached49, nextReached49⟩ := z49
        try dsimp only at hp49
        have hP : va_P g.1 vwCl (wX g asked values bytes starts ends (nI (L)) (nI (pt)) texts lengths feet sorts nxt (nI (nv)) sums oneSums otherSums byFeet kept over rcount rcust ssums14 ways nextWays reached49 nextReached49 found least greatest) H := hP
        refine lv_iinc (v := (nI (i + 1))) (lv' := [(3, .int (nI (i + 1))), (0, .ref (g.2.2 19)), (1, .int (nI (counting))), (2, .int (nI (custom)))]) hx hb dX2_findYears_52 hl (k := 3) rfl (nI_add _ 1) (by decide) rfl (fun ls hl => ?_)
        refine lv_goto (tgt := 36) hx hb dX2_findYears_55 (by decide) ?_
        exact ih_36 (i + 1) reached49 nextReached49 (by omega) (yrW_s hu hp49) (by omega) _ _ hP hS ls (lv_sub hl [1, 2, 3, 0] rfl)
  exact lp_36 (pt - (0) + 1) 0 (vp_updL reached22 141 (lN 1)) nextReached (Nat.zero_le _) (yrW_0 hp22) (Nat.lt_succ_self _) _ _ hP hS ls (lv_sub hl [1, 2, 3, 0] rfl)
theorem iw_X5_years_X1 : ∀ w ∈ u_ws RX1 TX1 5, w ∈ wsX5_years := by decide +kernel
theorem iw_X5_years_X2 : ∀ w ∈ u_ws RX2 TX2 11, w ∈ wsX5_years := by decide +kernel
theorem iw_X5_years_X5 : ∀ w ∈ u_ws RX5 TX5 6, w ∈ wsX5_years := by decide +kernel
theorem fl_X5_years_19 : Cond.fieldLink RX5 19 (TX5 1).1 (TX5 1).2.1 (TX5 1).2.2.1 ∈ wsX5_years := by decide +kernel
theorem fl_X5_years_44 : Cond.fieldLink RX5 44 (TX5 4).1 (TX5 4).2.1 (TX5 4).2.2.1 ∈ wsX5_years := by decide +kernel
theorem fl_X5_years_145 : Cond.fieldLink RX5 145 (TX1 4).1 (TX1 4).2.1 (TX1 4).2.2.1 ∈ wsX5_years := by decide +kernel
theorem fl_X5_years_160 : Cond.fieldLink RX5 160 (TX2 8).1 (TX2 8).2.1 (TX2 8).2.2.1 ∈ wsX5_years := by decide +kernel
theorem fl_X5_years_163 : Cond.fieldLink RX5 163 (TX2 9).1 (TX2 9).2.1 (TX2 9).2.2.1 ∈ wsX5_years := by decide +kernel
theorem fl_X5_years_166 : Cond.fieldLink RX5 166 (TX2 10).1 (TX2 10).2.1 (TX2 10).2.2.1 ∈ wsX5_years := by decide +kernel
set_option maxHeartbeats 200000 in
set_option maxRecDepth 100000 in
theorem c_X5_years (l : Launch) {g : GW} {asked : Int64} {values : Nat → Int32} {bytes : Nat → Int32} {starts : Nat → Int32} {ends : Nat → Int32} {L : Nat} {pt : Nat} {texts : Nat → Int32} {lengths : Nat → Int32} {feet : Nat → Int32} {sorts : Nat → Int32} {nxt : Nat → Int32} {nv : Nat} {sums : Nat → Int32} {oneSums : Nat → Int32} {otherSums : Nat → Int32} {byFeet : Nat → Int64} {kept : Nat → Int64} {over : Int32} {rcount : Int32} {rcust : Int32} {ssums : Nat → Int32} {ways : Nat → Int64} {nextWays : Nat → Int64} {reached : Nat → Int64} {nextReached : Nat → Int64} {found : Int32} {least : Int32} {greatest : Int32} {sz : Nat} (counting : Int32) (custom : Int32) (what : Int32) (hpt : pt = pn bytes L) (hnv : nv ≤ 10) (hL2 : L ≤ 40) (hrow : prow bytes L starts ends) (hle : okV lengths nv 1 8) (hso : okV sorts nv 0 2) (hva : okV values 104 0 1000) (hd : dW 25 g.2.2) : Met l yX5_years wsX5_years ({ frames := 6, cells := 0, slots := 0, locals := 141 }) (va_Pc ([.ref (g.2.2 0), .int (counting), .int (custom), .int (what)]) (qW g (wX g asked values bytes starts ends (nI (L)) (nI (pt)) texts lengths feet sorts nxt (nI (nv)) sums oneSums otherSums byFeet kept over rcount rcust ssums ways nextWays reached nextReached found least greatest) sz)) (va_Qi (fun (r : Int32) (z : (Nat → Int32) × (Nat → Int64) × (Nat → Int64) × Int32 × Int32 × Int32) => r = aYears values bytes texts lengths sorts nxt L nv counting custom what) (fun (z : (Nat → Int32) × (Nat → Int64) × (Nat → Int64) × Int32 × Int32 × Int32) (t : State) => va_P g.1 vwCl (wX g asked values bytes starts ends (nI (L)) (nI (pt)) texts lengths feet sorts nxt (nI (nv)) sums oneSums otherSums byFeet kept over rcount rcust (z.1) ways nextWays (z.2.1) (z.2.2.1) (z.2.2.2.1) (z.2.2.2.2.1) (z.2.2.2.2.2)) t.heap) (aW 25 g.2.2 sz)) 0 0 (aW 25 g.2.2 sz) := by
  refine Met.ofW (cc := cX5_years) (maxL := 4) (ret := (some .int)) (by decide) rfl ?_
  intro p e s m args below meth c s₁ B hml hv
  obtain ⟨rfl, hsz9, hP, hK, hN⟩ := hv
  subst hsz9
  have hx := B.exec
  have hb := B.bytes
  have hr := B.returns
  have hts := atoms_spec (ws := wsX5_years) B.pre
  have hown : s.vm.findClass RX5 = some m.cls := findClass_of_methodNamed B.named
  have hlocks := B.notSynchronized
  have hS : va_S (aW 25 g.2.2 s.heap.size) s.heap s.heap [] := va_S.rf
  have hl := lv_entry ([.ref (g.2.2 0), .int (counting), .int (custom), .int (what)]) (n := 4) (Nat.le_of_ble_eq_true rfl)
  rw [lg_entry_eq]
  generalize (lg_sl ([.ref (g.2.2 0), .int (counting), .int (custom), .int (what)]) ++ List.replicate (4 - (lg_sl ([.ref (g.2.2 0), .int (counting), .int (custom), .int (what)])).length) Slot.unset).toArray = ls at hl ⊢
  have hl : lv_has ls 4 [(0, .ref (g.2.2 0)), (1, .int (counting)), (2, .int (custom)), (3, .int (what))] := hl
  have hp20 := pn_room bytes L
  refine lv_iload_n hx hb dX5_years_0 rfl (lv_at hl 1 rfl) ?_
  refine lv_iload_n hx hb dX5_years_1 rfl (lv_at hl 2 rfl) ?_
  refine ro_call (va_runS (As := [.int (counting), .int (custom)]) (rest := []) ⟨hx, hb, hml, hown, hts⟩ (c_X5_isCustomary l (counting) (custom)) (va_cwS 2 hts gX5_years_X5_isCustomary rfl rfl rfl (by decide +kernel) ⟨Nat.le_of_ble_eq_true rfl, Nat.le_of_ble_eq_true rfl⟩) pre_0 rfl rfl hl.1 rfl (lv_room (Nat.le_of_ble_eq_true rfl)) dX5_years_2 ⟨Nat.zero_le _, Nat.zero_le _⟩) ?_
  refine lv_if_eq (tgt := 16) hx hb dX5_years_5 (by decide) (fun c_5 => ?_) (fun c_5 => ?_)
  · have c_5 := if_n c_5
    refine lv_iconst (v := ((-1 : Int32))) hx hb dX5_years_16 (by decide) ?_
    exact wr_iret (ssums, reached, nextReached, found, least, greatest) hx hb hr hlocks (by unfold aYears; rw [if_neg (fun z => by first | exact c_5 z.1 | exact c_13 z.2)]) (fun t ht => show va_P g.1 vwCl (wX g asked values bytes starts ends (nI (L)) (nI (pt)) texts lengths feet sorts nxt (nI (nv)) sums oneSums otherSums byFeet kept over rcount rcust ssums ways nextWays reached nextReached found least greatest) t.heap by rw [ht]; exact hP) hS dX5_years_17
  · have c_5 := if_p c_5
    refine lv_iload_n hx hb dX5_years_8 rfl (lv_at hl 3 rfl) ?_
    refine lv_iconst (v := (nI (4))) hx hb dX5_years_9 (by decide) ?_
    refine ro_call (va_runS (As := [.int (what), .int (nI (4))]) (rest := []) ⟨hx, hb, hml, hown, hts⟩ (c_X5_isWithin l (what) (4) (by decide)) (va_cwS 2 hts gX5_years_X5_isWithin rfl rfl rfl (by decide +kernel) ⟨Nat.le_of_ble_eq_true rfl, Nat.le_of_ble_eq_true rfl⟩) pre_0 rfl rfl hl.1 rfl (lv_room (Nat.le_of_ble_eq_true rfl)) dX5_years_10 ⟨Nat.zero_le _, Nat.zero_le _⟩) ?_
    refine lv_if_ne (tgt := 18) hx hb dX5_years_13 (by decide) (fun c_13 => ?_) (fun c_13 => ?_)
    · have c_13 := if_p c_13
      refine lv_aload_n hx hb dX5_years_18 rfl (lv_at hl 0 rfl) ?_
      refine an_get (ci := 5) (v := .ref (g.2.2 3)) (C := RX5) (T := TX5) (N := 6) hx hb hts iw_X5_years_X5 hown hK hP 0 rfl rfl 1 (by decide) (hts _ fl_X5_years_19) rfl dX5_years_19 ?_
      refine an_get (ci := 1) (v := .int (nI (pt))) (C := RX1) (T := TX1) (N := 5) hx hb hts iw_X5_years_X1 hown hK hP 3 rfl rfl 4 (by decide) (hts _ fl_X5_years_145) rfl dX5_years_22 ?_
      refine lv_if_ne (tgt := 31) hx hb dX5_years_25 (by decide) (fun c_25 => ?_) (fun c_25 => ?_)
      · have c_25 := (not_congr (cz_eq_n (by omega))).mp c_25
        have cA : way counting custom ∧ (0 ≤ what.toInt ∧ what.toInt < 4) := ⟨c_5, c_13⟩
        obtain ⟨n9, hn9, rfl⟩ := iN_of (b := 3) c_5.1.1 c_5.1.2
        obtain ⟨k9, hk9, rfl⟩ := iN_of (b := 4) c_5.2.1 c_5.2.2
        have e0 : tn (nI n9) = n9 := tn_nI (by omega)
        have e1 : tn (nI k9) = k9 := tn_nI (by omega)
        have e2 : ¬ pn bytes L = 0 := by omega
        have hy3 := ycn_le (yq bytes texts lengths sorts nxt (owf values texts lengths n9 k9) L nv (pn bytes L)) 3001
        refine lv_aload_n hx hb dX5_years_31 rfl (lv_at hl 0 rfl) ?_
        refine an_get (ci := 5) (v := .ref (g.2.2 19)) (C := RX5) (T := TX5) (N := 6) hx hb hts iw_X5_years_X5 hown hK hP 0 rfl rfl 4 (by decide) (hts _ fl_X5_years_44) rfl dX5_years_32 ?_
        refine lv_iload_n hx hb dX5_years_35 rfl (lv_at hl 1 rfl) ?_
        refine lv_iload_n hx hb dX5_years_36 rfl (lv_at hl 2 rfl) ?_
        refine wr_callv (w := (fun (z : (Nat → Int32) × (Nat → Int64) × (Nat → Int64) × Int32 × Int32 × Int32) => (wX g asked values bytes starts ends (nI (L)) (nI (pt)) texts lengths feet sorts nxt (nI (nv)) sums oneSums otherSums byFeet kept over rcount rcust (z.1) ways nextWays (z.2.1) (z.2.2.1) (z.2.2.2.1) (z.2.2.2.2.1) (z.2.2.2.2.2)))) (va_runV (As := [.int (nI (n9)), .int (nI (k9))]) (rest := []) ⟨hx, hb, hml, hown, hts⟩ (c_X2_findYears l (g := g) (asked := asked) (values := values) (bytes := bytes) (starts := starts) (ends := ends) (L := L) (pt := pt) (texts := texts) (lengths := lengths) (feet := feet) (sorts := sorts) (nxt := nxt) (nv := nv) (sums := sums) (oneSums := oneSums) (otherSums := otherSums) (byFeet := byFeet) (kept := kept) (over := over) (rcount := rcount) (rcust := rcust) (ssums := ssums) (ways := ways) (nextWays := nextWays) (reached := reached) (nextReached := nextReached) (found := found) (least := least) (greatest := greatest) (sz := _) (n9) (k9) hn9 hk9 hpt hnv hL2 hrow hle hso hva hd) (cwV 2 hts gX5_years_X2_findYears rfl rfl rfl (by decide +kernel) ⟨Nat.le_of_ble_eq_true rfl, Nat.le_of_ble_eq_true rfl⟩) (pre_V qW_bl (va_recv hK hP (ci := 2) (q0 := 19) rfl rfl) (fun U hU hW => ⟨by rw [hU], pW_of hP hK hN hU hW⟩)) rfl rfl hl.1 rfl (lv_room (Nat.le_of_ble_eq_true rfl)) dX5_years_37 ⟨Nat.zero_le _, Nat.zero_le _⟩) hS (fun z37 H locs hp37 hP hS => ?_)
        obtain ⟨ssums37, reached37, nextReached37, found37, least37, greatest37⟩ := z37
        try dsimp only at hp37
        have hP : va_P g.1 vwCl (wX g asked values bytes starts ends (nI (L)) (nI (pt)) texts lengths feet sorts nxt (nI (nv)) sums oneSums otherSums byFeet kept over rcount rcust ssums37 ways nextWays reached37 nextReached37 found37 least37 greatest37) H := hP
        obtain ⟨hf7, hl7, hg7⟩ := hp37
        subst hf7
        subst hl7
        subst hg7
        refine lv_iload_n hx hb dX5_years_40 rfl (lv_at hl 3 rfl) ?_
        rcases (show (what).toInt = 0 ∨ (what).toInt = 1 ∨ (what).toInt = 2 ∨ ((what).toInt < 0 ∨ 2 < (what).toInt) by omega) with c_41 | c_41 | c_41 | c_41
        · refine lv_tableIn (tgt := 68) (off := 27) hx hb dX5_years_41 (by omega) (by omega) (by rw [c_41]; rfl) (by decide) ?_
          refine lv_aload_n hx hb dX5_years_68 rfl (lv_at hl 0 rfl) ?_
          refine an_get (ci := 5) (v := .ref (g.2.2 19)) (C := RX5) (T := TX5) (N := 6) hx hb hts iw_X5_years_X5 hown hK hP 0 rfl rfl 4 (by decide) (hts _ fl_X5_years_44) rfl dX5_years_69 ?_
          refine an_get (ci := 2) (v := .int (nI (ycn (yq bytes texts lengths sorts nxt (owf values texts lengths n9 k9) L nv (pn bytes L)) 3001))) (C := RX2) (T := TX2) (N := 11) hx hb hts iw_X5_years_X2 hown hK hP 19 rfl rfl 8 (by decide) (hts _ fl_X5_years_160) rfl dX5_years_72 ?_
          exact wr_iret (ssums37, reached37, nextReached37, nI (ycn (yq bytes texts lengths sorts nxt (owf values texts lengths n9 k9) L nv (pn bytes L)) 3001), yfi (yq bytes texts lengths sorts nxt (owf values texts lengths n9 k9) L nv (pn bytes L)) 3001, yla (yq bytes texts lengths sorts nxt (owf values texts lengths n9 k9) L nv (pn bytes L)) 3001) hx hb hr hlocks (by unfold aYears; rw [if_pos cA, if_neg e2, if_pos c_41, e0, e1]) (fun t ht => show va_P g.1 vwCl (wX g asked values bytes starts ends (nI (L)) (nI (pt)) texts lengths feet sorts nxt (nI (nv)) sums oneSums otherSums byFeet kept over rcount rcust ssums37 ways nextWays reached37 nextReached37 (nI (ycn (yq bytes texts lengths sorts nxt (owf values texts lengths n9 k9) L nv (pn bytes L)) 3001)) (yfi (yq bytes texts lengths sorts nxt (owf values texts lengths n9 k9) L nv (pn bytes L)) 3001) (yla (yq bytes texts lengths sorts nxt (owf values texts lengths n9 k9) L nv (pn bytes L)) 3001)) t.heap by rw [ht]; exact hP) hS dX5_years_75
        · refine lv_tableIn (tgt := 76) (off := 35) hx hb dX5_years_41 (by omega) (by omega) (by rw [c_41]; rfl) (by decide) ?_
          refine lv_aload_n hx hb dX5_years_76 rfl (lv_at hl 0 rfl) ?_
          refine an_get (ci := 5) (v := .ref (g.2.2 19)) (C := RX5) (T := TX5) (N := 6) hx hb hts iw_X5_years_X5 hown hK hP 0 rfl rfl 4 (by decide) (hts _ fl_X5_years_44) rfl dX5_years_77 ?_
          refine an_get (ci := 2) (v := .int (yfi (yq bytes texts lengths sorts nxt (owf values texts lengths n9 k9) L nv (pn bytes L)) 3001)) (C := RX2) (T := TX2) (N := 11) hx hb hts iw_X5_years_X2 hown hK hP 19 rfl rfl 9 (by decide) (hts _ fl_X5_years_163) rfl dX5_years_80 ?_
          exact wr_iret (ssums37, reached37, nextReached37, nI (ycn (yq bytes texts lengths sorts nxt (owf values texts lengths n9 k9) L nv (pn bytes L)) 3001), yfi (yq bytes texts lengths sorts nxt (owf values texts lengths n9 k9) L nv (pn bytes L)) 3001, yla (yq bytes texts lengths sorts nxt (owf values texts lengths n9 k9) L nv (pn bytes L)) 3001) hx hb hr hlocks (by unfold aYears; rw [if_pos cA, if_neg e2, if_neg (by omega), if_pos c_41, e0, e1]) (fun t ht => show va_P g.1 vwCl (wX g asked values bytes starts ends (nI (L)) (nI (pt)) texts lengths feet sorts nxt (nI (nv)) sums oneSums otherSums byFeet kept over rcount rcust ssums37 ways nextWays reached37 nextReached37 (nI (ycn (yq bytes texts lengths sorts nxt (owf values texts lengths n9 k9) L nv (pn bytes L)) 3001)) (yfi (yq bytes texts lengths sorts nxt (owf values texts lengths n9 k9) L nv (pn bytes L)) 3001) (yla (yq bytes texts lengths sorts nxt (owf values texts lengths n9 k9) L nv (pn bytes L)) 3001)) t.heap by rw [ht]; exact hP) hS dX5_years_83
        · refine lv_tableIn (tgt := 84) (off := 43) hx hb dX5_years_41 (by omega) (by omega) (by rw [c_41]; rfl) (by decide) ?_
          refine lv_aload_n hx hb dX5_years_84 rfl (lv_at hl 0 rfl) ?_
          refine an_get (ci := 5) (v := .ref (g.2.2 19)) (C := RX5) (T := TX5) (N := 6) hx hb hts iw_X5_years_X5 hown hK hP 0 rfl rfl 4 (by decide) (hts _ fl_X5_years_44) rfl dX5_years_85 ?_
          refine an_get (ci := 2) (v := .int (yla (yq bytes texts lengths sorts nxt (owf values texts lengths n9 k9) L nv (pn bytes L)) 3001)) (C := RX2) (T := TX2) (N := 11) hx hb hts iw_X5_years_X2 hown hK hP 19 rfl rfl 10 (by decide) (hts _ fl_X5_years_166) rfl dX5_years_88 ?_
          exact wr_iret (ssums37, reached37, nextReached37, nI (ycn (yq bytes texts lengths sorts nxt (owf values texts lengths n9 k9) L nv (pn bytes L)) 3001), yfi (yq bytes texts lengths sorts nxt (owf values texts lengths n9 k9) L nv (pn bytes L)) 3001, yla (yq bytes texts lengths sorts nxt (owf values texts lengths n9 k9) L nv (pn bytes L)) 3001) hx hb hr hlocks (by unfold aYears; rw [if_pos cA, if_neg e2, if_neg (by omega), if_neg (by omega), if_pos c_41, e0, e1]) (fun t ht => show va_P g.1 vwCl (wX g asked values bytes starts ends (nI (L)) (nI (pt)) texts lengths feet sorts nxt (nI (nv)) sums oneSums otherSums byFeet kept over rcount rcust ssums37 ways nextWays reached37 nextReached37 (nI (ycn (yq bytes texts lengths sorts nxt (owf values texts lengths n9 k9) L nv (pn bytes L)) 3001)) (yfi (yq bytes texts lengths sorts nxt (owf values texts lengths n9 k9) L nv (pn bytes L)) 3001) (yla (yq bytes texts lengths sorts nxt (owf values texts lengths n9 k9) L nv (pn bytes L)) 3001)) t.heap by rw [ht]; exact hP) hS dX5_years_91
        · refine lv_tableOut (tgt := 92) hx hb dX5_years_41 (by omega) (by decide) ?_
          refine lv_aload_n hx hb dX5_years_92 rfl (lv_at hl 0 rfl) ?_
          refine an_get (ci := 5) (v := .ref (g.2.2 19)) (C := RX5) (T := TX5) (N := 6) hx hb hts iw_X5_years_X5 hown hK hP 0 rfl rfl 4 (by decide) (hts _ fl_X5_years_44) rfl dX5_years_93 ?_
          refine an_get (ci := 2) (v := .int (nI (ycn (yq bytes texts lengths sorts nxt (owf values texts lengths n9 k9) L nv (pn bytes L)) 3001))) (C := RX2) (T := TX2) (N := 11) hx hb hts iw_X5_years_X2 hown hK hP 19 rfl rfl 8 (by decide) (hts _ fl_X5_years_160) rfl dX5_years_96 ?_
          refine lv_iconst (v := (nI (1))) hx hb dX5_years_99 (by decide) ?_
          refine lv_icmp_ne (tgt := 107) hx hb dX5_years_100 (by decide) (fun c_100 => ?_) (fun c_100 => ?_)
          · have c_100 := (not_congr (cv_eq_nn (by omega) (by omega))).mp c_100
            refine lv_iconst (v := (nI (0))) hx hb dX5_years_107 (by decide) ?_
            exact wr_iret (ssums37, reached37, nextReached37, nI (ycn (yq bytes texts lengths sorts nxt (owf values texts lengths n9 k9) L nv (pn bytes L)) 3001), yfi (yq bytes texts lengths sorts nxt (owf values texts lengths n9 k9) L nv (pn bytes L)) 3001, yla (yq bytes texts lengths sorts nxt (owf values texts lengths n9 k9) L nv (pn bytes L)) 3001) hx hb hr hlocks (by unfold aYears; rw [if_pos cA, if_neg e2, if_neg (by omega), if_neg (by omega), if_neg (by omega), e0, e1, if_neg c_100]) (fun t ht => show va_P g.1 vwCl (wX g asked values bytes starts ends (nI (L)) (nI (pt)) texts lengths feet sorts nxt (nI (nv)) sums oneSums otherSums byFeet kept over rcount rcust ssums37 ways nextWays reached37 nextReached37 (nI (ycn (yq bytes texts lengths sorts nxt (owf values texts lengths n9 k9) L nv (pn bytes L)) 3001)) (yfi (yq bytes texts lengths sorts nxt (owf values texts lengths n9 k9) L nv (pn bytes L)) 3001) (yla (yq bytes texts lengths sorts nxt (owf values texts lengths n9 k9) L nv (pn bytes L)) 3001)) t.heap by rw [ht]; exact hP) hS dX5_years_108
          · have c_100 := (cv_eq_nn (by omega) (by omega)).mp c_100
            refine lv_iconst (v := (nI (1))) hx hb dX5_years_103 (by decide) ?_
            refine lv_goto (tgt := 108) hx hb dX5_years_104 (by decide) ?_
            exact wr_iret (ssums37, reached37, nextReached37, nI (ycn (yq bytes texts lengths sorts nxt (owf values texts lengths n9 k9) L nv (pn bytes L)) 3001), yfi (yq bytes texts lengths sorts nxt (owf values texts lengths n9 k9) L nv (pn bytes L)) 3001, yla (yq bytes texts lengths sorts nxt (owf values texts lengths n9 k9) L nv (pn bytes L)) 3001) hx hb hr hlocks (by unfold aYears; rw [if_pos cA, if_neg e2, if_neg (by omega), if_neg (by omega), if_neg (by omega), e0, e1, if_pos c_100]) (fun t ht => show va_P g.1 vwCl (wX g asked values bytes starts ends (nI (L)) (nI (pt)) texts lengths feet sorts nxt (nI (nv)) sums oneSums otherSums byFeet kept over rcount rcust ssums37 ways nextWays reached37 nextReached37 (nI (ycn (yq bytes texts lengths sorts nxt (owf values texts lengths n9 k9) L nv (pn bytes L)) 3001)) (yfi (yq bytes texts lengths sorts nxt (owf values texts lengths n9 k9) L nv (pn bytes L)) 3001) (yla (yq bytes texts lengths sorts nxt (owf values texts lengths n9 k9) L nv (pn bytes L)) 3001)) t.heap by rw [ht]; exact hP) hS dX5_years_108
      · have c_25 := (cz_eq_n (by omega)).mp c_25
        refine lv_bipush (v := ((-2 : Int32))) hx hb dX5_years_28 (by decide) ?_
        exact wr_iret (ssums, reached, nextReached, found, least, greatest) hx hb hr hlocks (by unfold aYears; rw [if_pos ⟨c_5, c_13⟩, if_pos (by omega)]) (fun t ht => show va_P g.1 vwCl (wX g asked values bytes starts ends (nI (L)) (nI (pt)) texts lengths feet sorts nxt (nI (nv)) sums oneSums otherSums byFeet kept over rcount rcust ssums ways nextWays reached nextReached found least greatest) t.heap by rw [ht]; exact hP) hS dX5_years_30
    · have c_13 := if_n c_13
      refine lv_iconst (v := ((-1 : Int32))) hx hb dX5_years_16 (by decide) ?_
      exact wr_iret (ssums, reached, nextReached, found, least, greatest) hx hb hr hlocks (by unfold aYears; rw [if_neg (fun z => by first | exact c_5 z.1 | exact c_13 z.2)]) (fun t ht => show va_P g.1 vwCl (wX g asked values bytes starts ends (nI (L)) (nI (pt)) texts lengths feet sorts nxt (nI (nv)) sums oneSums otherSums byFeet kept over rcount rcust ssums ways nextWays reached nextReached found least greatest) t.heap by rw [ht]; exact hP) hS dX5_years_17
