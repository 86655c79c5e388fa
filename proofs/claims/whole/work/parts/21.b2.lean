theorem iw_X4_mayCome_X4 : ∀ w ∈ u_ws RX4 TX4 6, w ∈ wsX4_mayCome := by decide +kernel
theorem fl_X4_mayCome_21 : Cond.fieldLink RX4 21 (TX4 3).1 (TX4 3).2.1 (TX4 3).2.2.1 ∈ wsX4_mayCome := by decide +kernel
theorem fl_X4_mayCome_24 : Cond.fieldLink RX4 24 (TX4 4).1 (TX4 4).2.1 (TX4 4).2.2.1 ∈ wsX4_mayCome := by decide +kernel
set_option maxHeartbeats 200000 in
set_option maxRecDepth 100000 in
theorem c_X4_mayCome (l : Launch) {g : GW} {asked : Int64} {values : Nat → Int32} {bytes : Nat → Int32} {starts : Nat → Int32} {ends : Nat → Int32} {length : Int32} {parts : Int32} {texts : Nat → Int32} {lengths : Nat → Int32} {feet : Nat → Int32} {sorts : Nat → Int32} {nxt : Nat → Int32} {size : Int32} {sums : Nat → Int32} {oneSums : Nat → Int32} {otherSums : Nat → Int32} {byFeet : Nat → Int64} {kept : Nat → Int64} {over : Int32} {rcount : Int32} {rcust : Int32} {ssums : Nat → Int32} {ways : Nat → Int64} {nextWays : Nat → Int64} {reached : Nat → Int64} {nextReached : Nat → Int64} {found : Int32} {least : Int32} {greatest : Int32} (behind : Nat) (vocable : Nat) (hc : behind < 4) (hk : vocable < 10) : Met l yX4_mayCome wsX4_mayCome ({ frames := 0, cells := 0, slots := 0, locals := 0 }) (va_Pc ([.ref (g.2.2 7), .int (nI (behind)), .int (nI (vocable))]) (pW g (wX g asked values bytes starts ends length parts texts lengths feet sorts nxt size sums oneSums otherSums byFeet kept over rcount rcust ssums ways nextWays reached nextReached found least greatest))) (ro_Q (.int (if mcy nxt sorts behind vocable then 1 else 0))) 0 0 (fun _ => False) := by
  refine Met.ofW (cc := cX4_mayCome) (maxL := 3) (ret := (some .boolean)) (by decide) rfl ?_
  intro p e s m args below meth c s₁ B hml hv
  obtain ⟨rfl, hP, hK, hN⟩ := hv
  have hx := B.exec
  have hb := B.bytes
  have hr := B.returns
  have hts := atoms_spec (ws := wsX4_mayCome) B.pre
  have hown : s.vm.findClass RX4 = some m.cls := findClass_of_methodNamed B.named
  have hlocks := B.notSynchronized
  have hl := lv_entry ([.ref (g.2.2 7), .int (nI (behind)), .int (nI (vocable))]) (n := 3) (Nat.le_of_ble_eq_true rfl)
  rw [lg_entry_eq]
  generalize (lg_sl ([.ref (g.2.2 7), .int (nI (behind)), .int (nI (vocable))]) ++ List.replicate (3 - (lg_sl ([.ref (g.2.2 7), .int (nI (behind)), .int (nI (vocable))])).length) Slot.unset).toArray = ls at hl ⊢
  have hl : lv_has ls 3 [(0, .ref (g.2.2 7)), (1, .int (nI (behind))), (2, .int (nI (vocable)))] := hl
  refine lv_aload_n hx hb dX4_mayCome_0 rfl (lv_at hl 0 rfl) ?_
  refine an_get (ci := 4) (v := .ref (g.2.2 12)) (C := RX4) (T := TX4) (N := 6) hx hb hts iw_X4_mayCome_X4 hown hK hP 7 rfl rfl 4 (by decide) (hts _ fl_X4_mayCome_24) rfl dX4_mayCome_1 ?_
  refine lv_iload_n hx hb dX4_mayCome_4 rfl (lv_at hl 1 rfl) ?_
  refine an_iald (f := nxt) hx hb hK hP 12 0 rfl rfl (by decide) (by omega) dX4_mayCome_5 ?_
  refine lv_aload_n hx hb dX4_mayCome_6 rfl (lv_at hl 0 rfl) ?_
  refine an_get (ci := 4) (v := .ref (g.2.2 11)) (C := RX4) (T := TX4) (N := 6) hx hb hts iw_X4_mayCome_X4 hown hK hP 7 rfl rfl 3 (by decide) (hts _ fl_X4_mayCome_21) rfl dX4_mayCome_7 ?_
  refine lv_iload_n hx hb dX4_mayCome_10 rfl (lv_at hl 2 rfl) ?_
  refine an_iald (f := sorts) hx hb hK hP 11 0 rfl rfl (by decide) (by omega) dX4_mayCome_11 ?_
  refine lv_ishr hx hb dX4_mayCome_12 ?_
  refine lv_iconst (v := (nI (1))) hx hb dX4_mayCome_13 (by decide) ?_
  refine lv_iand hx hb dX4_mayCome_14 ?_
  refine lv_iconst (v := (nI (1))) hx hb dX4_mayCome_15 (by decide) ?_
  refine lv_icmp_ne (tgt := 23) hx hb dX4_mayCome_16 (by decide) (fun c_16 => ?_) (fun c_16 => ?_)
  · refine lv_iconst (v := (nI (0))) hx hb dX4_mayCome_23 (by decide) ?_
    exact ro_zret hx hb hr hlocks (rfl) (zero_if (by first | omega | assumption)) dX4_mayCome_24
  · refine lv_iconst (v := (nI (1))) hx hb dX4_mayCome_19 (by decide) ?_
    refine lv_goto (tgt := 24) hx hb dX4_mayCome_20 (by decide) ?_
    exact ro_zret hx hb hr hlocks (rfl) (one_if (by first | omega | assumption)) dX4_mayCome_24
theorem iw_X1_isWord_X1 : ∀ w ∈ u_ws RX1 TX1 5, w ∈ wsX1_isWord := by decide +kernel
theorem fl_X1_isWord_9 : Cond.fieldLink RX1 9 (TX1 0).1 (TX1 0).2.1 (TX1 0).2.2.1 ∈ wsX1_isWord := by decide +kernel
theorem fl_X1_isWord_21 : Cond.fieldLink RX1 21 (TX1 3).1 (TX1 3).2.1 (TX1 3).2.2.1 ∈ wsX1_isWord := by decide +kernel
set_option maxHeartbeats 200000 in
set_option maxRecDepth 100000 in
theorem c_X1_isWord (l : Launch) {g : GW} {asked : Int64} {values : Nat → Int32} {bytes : Nat → Int32} {starts : Nat → Int32} {ends : Nat → Int32} {L : Nat} {parts : Int32} {texts : Nat → Int32} {lengths : Nat → Int32} {feet : Nat → Int32} {sorts : Nat → Int32} {nxt : Nat → Int32} {size : Int32} {sums : Nat → Int32} {oneSums : Nat → Int32} {otherSums : Nat → Int32} {byFeet : Nat → Int64} {kept : Nat → Int64} {over : Int32} {rcount : Int32} {rcust : Int32} {ssums : Nat → Int32} {ways : Nat → Int64} {nextWays : Nat → Int64} {reached : Nat → Int64} {nextReached : Nat → Int64} {found : Int32} {least : Int32} {greatest : Int32} (hL2 : L ≤ 40) : Met l yX1_isWord wsX1_isWord ({ frames := 2, cells := 0, slots := 0, locals := 40 }) (va_Pc ([.ref (g.2.2 3)]) (pW g (wX g asked values bytes starts ends (nI (L)) parts texts lengths feet sorts nxt size sums oneSums otherSums byFeet kept over rcount rcust ssums ways nextWays reached nextReached found least greatest))) (ro_Q (.int (if wordy bytes L then 1 else 0))) 0 0 (fun _ => False) := by
  refine Met.ofW (cc := cX1_isWord) (maxL := 2) (ret := (some .boolean)) (by decide) rfl ?_
  intro p e s m args below meth c s₁ B hml hv
  obtain ⟨rfl, hP, hK, hN⟩ := hv
  have hx := B.exec
  have hb := B.bytes
  have hr := B.returns
  have hts := atoms_spec (ws := wsX1_isWord) B.pre
  have hown : s.vm.findClass RX1 = some m.cls := findClass_of_methodNamed B.named
  have hlocks := B.notSynchronized
  have hl := lv_entry ([.ref (g.2.2 3)]) (n := 2) (Nat.le_of_ble_eq_true rfl)
  rw [lg_entry_eq]
  generalize (lg_sl ([.ref (g.2.2 3)]) ++ List.replicate (2 - (lg_sl ([.ref (g.2.2 3)])).length) Slot.unset).toArray = ls at hl ⊢
  have hl : lv_has ls 2 [(0, .ref (g.2.2 3))] := hl
  refine lv_aload_n hx hb dX1_isWord_0 rfl (lv_at hl 0 rfl) ?_
  refine an_get (ci := 1) (v := .int (nI (L))) (C := RX1) (T := TX1) (N := 5) hx hb hts iw_X1_isWord_X1 hown hK hP 3 rfl rfl 3 (by decide) (hts _ fl_X1_isWord_21) rfl dX1_isWord_1 ?_
  refine lv_iconst (v := (nI (1))) hx hb dX1_isWord_4 (by decide) ?_
  refine lv_icmp_lt (tgt := 17) hx hb dX1_isWord_5 (by decide) (fun c_5 => ?_) (fun c_5 => ?_)
  · have c_5 := (cv_lt_nn (by omega) (by omega)).mp c_5
    refine lv_iconst (v := (nI (0))) hx hb dX1_isWord_17 (by decide) ?_
    exact ro_zret hx hb hr hlocks (rfl) (zero_if (fun q => absurd q.1 (by omega))) dX1_isWord_18
  · have c_5 := (not_congr (cv_lt_nn (by omega) (by omega))).mp c_5
    refine lv_aload_n hx hb dX1_isWord_8 rfl (lv_at hl 0 rfl) ?_
    refine an_get (ci := 1) (v := .int (nI (L))) (C := RX1) (T := TX1) (N := 5) hx hb hts iw_X1_isWord_X1 hown hK hP 3 rfl rfl 3 (by decide) (hts _ fl_X1_isWord_21) rfl dX1_isWord_9 ?_
    refine lv_bipush (v := (nI (8))) hx hb dX1_isWord_12 (by decide) ?_
    refine lv_icmp_le (tgt := 19) hx hb dX1_isWord_14 (by decide) (fun c_14 => ?_) (fun c_14 => ?_)
    · have c_14 := (cv_le_nn (by omega) (by omega)).mp c_14
      refine lv_iconst (v := (nI (0))) hx hb dX1_isWord_19 (by decide) ?_
      refine lv_istore_n (lv' := [(1, .int (nI (0))), (0, .ref (g.2.2 3))]) hx hb dX1_isWord_20 rfl hl (by decide) rfl (fun ls hl => ?_)
      have lp_21 : ∀ (n : Nat) (i : Nat), (i ≤ L) → (∀ j, j < i → letr (bytes j)) → L - i < n → ∀ (ls : Array Slot), lv_has ls 2 [(0, .ref (g.2.2 3)), (1, .int (nI (i)))] → W p l e (headSpec wsX1_isWord ({ frames := 2, cells := 0, slots := 0, locals := 40 })).room s m (([.ref (g.2.2 3)] : List Value).toArray) below meth c s.heap [] 0 0 (MQ below (ro_Q (.int (if wordy bytes L then 1 else 0))) (([.ref (g.2.2 3)] : List Value).toArray) s 0 0 (fun _ => False)) (F0 m 21 ls []) := by
        intro n
        induction n with
        | zero => intro i hi ho hm; exact absurd hm (Nat.not_lt_zero _)
        | succ n ih_21 =>
          intro i hi ho hm_21 ls hl
          refine lv_iload_n hx hb dX1_isWord_21 rfl (lv_at hl 1 rfl) ?_
          refine lv_aload_n hx hb dX1_isWord_22 rfl (lv_at hl 0 rfl) ?_
          refine an_get (ci := 1) (v := .int (nI (L))) (C := RX1) (T := TX1) (N := 5) hx hb hts iw_X1_isWord_X1 hown hK hP 3 rfl rfl 3 (by decide) (hts _ fl_X1_isWord_21) rfl dX1_isWord_23 ?_
          refine lv_icmp_ge (tgt := 49) hx hb dX1_isWord_26 (by decide) (fun c_26 => ?_) (fun c_26 => ?_)
          · have c_26 := (cv_le_nn (by omega) (by omega)).mp c_26
            refine lv_iconst (v := (nI (1))) hx hb dX1_isWord_49 (by decide) ?_
            exact ro_zret hx hb hr hlocks (rfl) (one_if ⟨by omega, fun k hk => ho k (by omega)⟩) dX1_isWord_50
          · have c_26 := (not_congr (cv_le_nn (by omega) (by omega))).mp c_26
            refine lv_aload_n hx hb dX1_isWord_29 rfl (lv_at hl 0 rfl) ?_
            refine an_get (ci := 1) (v := .ref (g.2.2 4)) (C := RX1) (T := TX1) (N := 5) hx hb hts iw_X1_isWord_X1 hown hK hP 3 rfl rfl 0 (by decide) (hts _ fl_X1_isWord_9) rfl dX1_isWord_30 ?_
            refine lv_iload_n hx hb dX1_isWord_33 rfl (lv_at hl 1 rfl) ?_
            refine an_iald (f := bytes) hx hb hK hP 4 0 rfl rfl (by decide) (by omega) dX1_isWord_34 ?_
            refine ro_call (va_runSN (As := [.int (bytes (i))]) (rest := []) ⟨hx, hb, hml, hown, hts⟩ (c_X5_isLetter l (bytes (i))) ⟨va_cnB 1 hts gX1_isWord_X5_isLetter_n35 rfl rfl rfl hN.2.2.2.1 (hts (.initialized RX5) (by decide +kernel)) (by decide +kernel) ⟨Nat.le_of_ble_eq_true rfl, Nat.le_of_ble_eq_true rfl⟩, hts (.static yX5_isLetter) (by decide +kernel), trivial⟩ pre_0 rfl rfl hl.1 rfl (lv_room (Nat.le_of_ble_eq_true rfl)) dX1_isWord_35 ⟨Nat.zero_le _, Nat.zero_le _⟩) ?_
            refine lv_if_ne (tgt := 43) hx hb dX1_isWord_38 (by decide) (fun c_38 => ?_) (fun c_38 => ?_)
            · have c_38 := if_p c_38
              refine lv_iinc (v := (nI (i + 1))) (lv' := [(1, .int (nI (i + 1))), (0, .ref (g.2.2 3))]) hx hb dX1_isWord_43 hl (k := 1) rfl (nI_add _ 1) (by decide) rfl (fun ls hl => ?_)
              refine lv_goto (tgt := 21) hx hb dX1_isWord_46 (by decide) ?_
              exact ih_21 (i + 1) (by omega) (lt_s ho c_38) (by omega) ls (lv_sub hl [1, 0] rfl)
            · have c_38 := if_n c_38
              refine lv_iconst (v := (nI (0))) hx hb dX1_isWord_41 (by decide) ?_
              exact ro_zret hx hb hr hlocks (rfl) (zero_if (fun q => absurd (q.2 i (by omega)) c_38)) dX1_isWord_42
      exact lp_21 (L - (0) + 1) 0 (Nat.zero_le _) (fun j hj => absurd hj (Nat.not_lt_zero j)) (Nat.lt_succ_self _) ls (lv_sub hl [1, 0] rfl)
    · have c_14 := (not_congr (cv_le_nn (by omega) (by omega))).mp c_14
      refine lv_iconst (v := (nI (0))) hx hb dX1_isWord_17 (by decide) ?_
      exact ro_zret hx hb hr hlocks (rfl) (zero_if (fun q => absurd q.1 (by omega))) dX1_isWord_18
theorem iw_X1_broken_X1 : ∀ w ∈ u_ws RX1 TX1 5, w ∈ wsX1_broken := by decide +kernel
theorem fl_X1_broken_9 : Cond.fieldLink RX1 9 (TX1 0).1 (TX1 0).2.1 (TX1 0).2.2.1 ∈ wsX1_broken := by decide +kernel
theorem fl_X1_broken_21 : Cond.fieldLink RX1 21 (TX1 3).1 (TX1 3).2.1 (TX1 3).2.2.1 ∈ wsX1_broken := by decide +kernel
set_option maxHeartbeats 200000 in
set_option maxRecDepth 100000 in
theorem c_X1_broken (l : Launch) {g : GW} {asked : Int64} {values : Nat → Int32} {bytes : Nat → Int32} {starts : Nat → Int32} {ends : Nat → Int32} {L : Nat} {parts : Int32} {texts : Nat → Int32} {lengths : Nat → Int32} {feet : Nat → Int32} {sorts : Nat → Int32} {nxt : Nat → Int32} {size : Int32} {sums : Nat → Int32} {oneSums : Nat → Int32} {otherSums : Nat → Int32} {byFeet : Nat → Int64} {kept : Nat → Int64} {over : Int32} {rcount : Int32} {rcust : Int32} {ssums : Nat → Int32} {ways : Nat → Int64} {nextWays : Nat → Int64} {reached : Nat → Int64} {nextReached : Nat → Int64} {found : Int32} {least : Int32} {greatest : Int32} (hL2 : L ≤ 40) : Met l yX1_broken wsX1_broken ({ frames := 0, cells := 0, slots := 0, locals := 0 }) (va_Pc ([.ref (g.2.2 3)]) (pW g (wX g asked values bytes starts ends (nI (L)) parts texts lengths feet sorts nxt size sums oneSums otherSums byFeet kept over rcount rcust ssums ways nextWays reached nextReached found least greatest))) (ro_Q (.int (nI (brk bytes L)))) 0 0 (fun _ => False) := by
  refine Met.ofW (cc := cX1_broken) (maxL := 3) (ret := (some .int)) (by decide) rfl ?_
  intro p e s m args below meth c s₁ B hml hv
  obtain ⟨rfl, hP, hK, hN⟩ := hv
  have hx := B.exec
  have hb := B.bytes
  have hr := B.returns
  have hts := atoms_spec (ws := wsX1_broken) B.pre
  have hown : s.vm.findClass RX1 = some m.cls := findClass_of_methodNamed B.named
  have hlocks := B.notSynchronized
  have hl := lv_entry ([.ref (g.2.2 3)]) (n := 3) (Nat.le_of_ble_eq_true rfl)
  rw [lg_entry_eq]
  generalize (lg_sl ([.ref (g.2.2 3)]) ++ List.replicate (3 - (lg_sl ([.ref (g.2.2 3)])).length) Slot.unset).toArray = ls at hl ⊢
  have hl : lv_has ls 3 [(0, .ref (g.2.2 3))] := hl
  refine lv_iconst (v := (nI (0))) hx hb dX1_broken_0 (by decide) ?_
  refine lv_istore_n (lv' := [(1, .int (nI (0))), (0, .ref (g.2.2 3))]) hx hb dX1_broken_1 rfl hl (by decide) rfl (fun ls hl => ?_)
  refine lv_iconst (v := (nI (0))) hx hb dX1_broken_2 (by decide) ?_
  refine lv_istore_n (lv' := [(2, .int (nI (0))), (1, .int (nI (0))), (0, .ref (g.2.2 3))]) hx hb dX1_broken_3 rfl hl (by decide) rfl (fun ls hl => ?_)
  have lp_4 : ∀ (n : Nat) (i : Nat), (i ≤ L) → L - i < n → ∀ (ls : Array Slot), lv_has ls 3 [(0, .ref (g.2.2 3)), (1, .int (nI (brk bytes i))), (2, .int (nI (i)))] → W p l e (headSpec wsX1_broken ({ frames := 0, cells := 0, slots := 0, locals := 0 })).room s m (([.ref (g.2.2 3)] : List Value).toArray) below meth c s.heap [] 0 0 (MQ below (ro_Q (.int (nI (brk bytes L)))) (([.ref (g.2.2 3)] : List Value).toArray) s 0 0 (fun _ => False)) (F0 m 4 ls []) := by
    intro n
    induction n with
    | zero => intro i hi hm; exact absurd hm (Nat.not_lt_zero _)
    | succ n ih_4 =>
      intro i hi hm_4 ls hl
      refine lv_iload_n hx hb dX1_broken_4 rfl (lv_at hl 2 rfl) ?_
      refine lv_aload_n hx hb dX1_broken_5 rfl (lv_at hl 0 rfl) ?_
      refine an_get (ci := 1) (v := .int (nI (L))) (C := RX1) (T := TX1) (N := 5) hx hb hts iw_X1_broken_X1 hown hK hP 3 rfl rfl 3 (by decide) (hts _ fl_X1_broken_21) rfl dX1_broken_6 ?_
      refine lv_icmp_ge (tgt := 32) hx hb dX1_broken_9 (by decide) (fun c_9 => ?_) (fun c_9 => ?_)
      · have c_9 := (cv_le_nn (by omega) (by omega)).mp c_9
        refine lv_iload_n hx hb dX1_broken_32 rfl (lv_at hl 1 rfl) ?_
        exact ro_iret hx hb hr hlocks (by rw [show L = i by omega]) dX1_broken_33
      · have c_9 := (not_congr (cv_le_nn (by omega) (by omega))).mp c_9
        refine lv_aload_n hx hb dX1_broken_12 rfl (lv_at hl 0 rfl) ?_
        refine an_get (ci := 1) (v := .ref (g.2.2 4)) (C := RX1) (T := TX1) (N := 5) hx hb hts iw_X1_broken_X1 hown hK hP 3 rfl rfl 0 (by decide) (hts _ fl_X1_broken_9) rfl dX1_broken_13 ?_
        refine lv_iload_n hx hb dX1_broken_16 rfl (lv_at hl 2 rfl) ?_
        refine an_iald (f := bytes) hx hb hK hP 4 0 rfl rfl (by decide) (by omega) dX1_broken_17 ?_
        refine lv_bipush (v := (nI (63))) hx hb dX1_broken_18 (by decide) ?_
        refine lv_icmp_ne (tgt := 26) hx hb dX1_broken_20 (by decide) (fun c_20 => ?_) (fun c_20 => ?_)
        · have c_20 := (not_congr (cv_eq_in (by omega))).mp c_20
          refine lv_iinc (v := (nI (i + 1))) (lv' := [(2, .int (nI (i + 1))), (0, .ref (g.2.2 3)), (1, .int (nI (brk bytes i)))]) hx hb dX1_broken_26 hl (k := 2) rfl (nI_add _ 1) (by decide) rfl (fun ls hl => ?_)
          refine lv_goto (tgt := 4) hx hb dX1_broken_29 (by decide) ?_
          rw [brk_n c_20] at hl
          exact ih_4 (i + 1) (by omega) (by omega) ls (lv_sub hl [1, 2, 0] rfl)
        · have c_20 := (cv_eq_in (by omega)).mp c_20
          refine lv_iinc (v := (nI ((brk bytes i) + 1))) (lv' := [(1, .int (nI ((brk bytes i) + 1))), (0, .ref (g.2.2 3)), (2, .int (nI (i)))]) hx hb dX1_broken_23 hl (k := 1) rfl (nI_add _ 1) (by decide) rfl (fun ls hl => ?_)
          refine lv_iinc (v := (nI (i + 1))) (lv' := [(2, .int (nI (i + 1))), (1, .int (nI ((brk bytes i) + 1))), (0, .ref (g.2.2 3))]) hx hb dX1_broken_26 hl (k := 2) rfl (nI_add _ 1) (by decide) rfl (fun ls hl => ?_)
          refine lv_goto (tgt := 4) hx hb dX1_broken_29 (by decide) ?_
          rw [brk_y c_20] at hl
          exact ih_4 (i + 1) (by omega) (by omega) ls (lv_sub hl [2, 1, 0] rfl)
  exact lp_4 (L - (0) + 1) 0 (Nat.zero_le _) (Nat.lt_succ_self _) ls (lv_sub hl [2, 1, 0] rfl)
set_option maxHeartbeats 200000 in
set_option maxRecDepth 100000 in
theorem c_X3_placeKept (l : Launch) (behind : Nat) (feet : Nat) (rest : Nat) (h1 : behind < 4) (h2 : feet < 9) (h3 : rest ≤ 3000) : Met l yX3_placeKept wsX3_placeKept ({ frames := 0, cells := 0, slots := 0, locals := 0 }) (va_Pc ([.int (nI (behind)), .int (nI (feet)), .int (nI (rest))]) (fun _ => True)) (ro_Q (.int (if behind < 3 ∧ feet ≤ 4 then nI (behind * 3001 + rest) else (-1 : Int32)))) 0 0 (fun _ => False) := by
  refine Met.ofW (cc := cX3_placeKept) (maxL := 3) (ret := (some .int)) (by decide) rfl ?_
  intro p e s m args below meth c s₁ B hml hv
  obtain ⟨rfl, -⟩ := hv
  have hx := B.exec
  have hb := B.bytes
  have hr := B.returns
  have hts := atoms_spec (ws := wsX3_placeKept) B.pre
  have hown : s.vm.findClass RX3 = some m.cls := findClass_of_methodNamed B.named
  have hlocks := B.notSynchronized
  have hl := lv_entry ([.int (nI (behind)), .int (nI (feet)), .int (nI (rest))]) (n := 3) (Nat.le_of_ble_eq_true rfl)
  rw [lg_entry_eq]
  generalize (lg_sl ([.int (nI (behind)), .int (nI (feet)), .int (nI (rest))]) ++ List.replicate (3 - (lg_sl ([.int (nI (behind)), .int (nI (feet)), .int (nI (rest))])).length) Slot.unset).toArray = ls at hl ⊢
  have hl : lv_has ls 3 [(0, .int (nI (behind))), (1, .int (nI (feet))), (2, .int (nI (rest)))] := hl
  refine lv_iload_n hx hb dX3_placeKept_0 rfl (lv_at hl 0 rfl) ?_
  refine lv_iconst (v := (nI (3))) hx hb dX3_placeKept_1 (by decide) ?_
  refine lv_icmp_ge (tgt := 10) hx hb dX3_placeKept_2 (by decide) (fun c_2 => ?_) (fun c_2 => ?_)
  · have c_2 := (cv_le_nn (by omega) (by omega)).mp c_2
    refine lv_iconst (v := ((-1 : Int32))) hx hb dX3_placeKept_10 (by decide) ?_
    exact ro_iret hx hb hr hlocks ((if_neg (by omega)).symm) dX3_placeKept_11
  · have c_2 := (not_congr (cv_le_nn (by omega) (by omega))).mp c_2
    refine lv_iload_n hx hb dX3_placeKept_5 rfl (lv_at hl 1 rfl) ?_
    refine lv_iconst (v := (nI (4))) hx hb dX3_placeKept_6 (by decide) ?_
    refine lv_icmp_le (tgt := 12) hx hb dX3_placeKept_7 (by decide) (fun c_7 => ?_) (fun c_7 => ?_)
    · have c_7 := (cv_le_nn (by omega) (by omega)).mp c_7
      refine lv_iload_n hx hb dX3_placeKept_12 rfl (lv_at hl 0 rfl) ?_
      refine lv_sipush (v := (nI (3001))) hx hb dX3_placeKept_13 (by decide) ?_
      refine ln_imul hx hb dX3_placeKept_16 ?_
      refine lv_iload_n hx hb dX3_placeKept_17 rfl (lv_at hl 2 rfl) ?_
      refine ln_iadd hx hb dX3_placeKept_18 ?_
      exact ro_iret hx hb hr hlocks ((if_pos (by omega)).symm) dX3_placeKept_19
    · have c_7 := (not_congr (cv_le_nn (by omega) (by omega))).mp c_7
      refine lv_iconst (v := ((-1 : Int32))) hx hb dX3_placeKept_10 (by decide) ?_
      exact ro_iret hx hb hr hlocks ((if_neg (by omega)).symm) dX3_placeKept_11
theorem iw_X5_sumOfDraft_X1 : ∀ w ∈ u_ws RX1 TX1 5, w ∈ wsX5_sumOfDraft := by decide +kernel
theorem iw_X5_sumOfDraft_X5 : ∀ w ∈ u_ws RX5 TX5 6, w ∈ wsX5_sumOfDraft := by decide +kernel
theorem fl_X5_sumOfDraft_10 : Cond.fieldLink RX5 10 (TX5 0).1 (TX5 0).2.1 (TX5 0).2.2.1 ∈ wsX5_sumOfDraft := by decide +kernel
theorem fl_X5_sumOfDraft_19 : Cond.fieldLink RX5 19 (TX5 1).1 (TX5 1).2.1 (TX5 1).2.2.1 ∈ wsX5_sumOfDraft := by decide +kernel
theorem fl_X5_sumOfDraft_82 : Cond.fieldLink RX5 82 (TX1 3).1 (TX1 3).2.1 (TX1 3).2.2.1 ∈ wsX5_sumOfDraft := by decide +kernel
theorem fl_X5_sumOfDraft_173 : Cond.fieldLink RX5 173 (TX1 0).1 (TX1 0).2.1 (TX1 0).2.2.1 ∈ wsX5_sumOfDraft := by decide +kernel
set_option maxHeartbeats 200000 in
set_option maxRecDepth 100000 in
theorem c_X5_sumOfDraft (l : Launch) {g : GW} {asked : Int64} {values : Nat → Int32} {bytes : Nat → Int32} {starts : Nat → Int32} {ends : Nat → Int32} {L : Nat} {parts : Int32} {texts : Nat → Int32} {lengths : Nat → Int32} {feet : Nat → Int32} {sorts : Nat → Int32} {nxt : Nat → Int32} {size : Int32} {sums : Nat → Int32} {oneSums : Nat → Int32} {otherSums : Nat → Int32} {byFeet : Nat → Int64} {kept : Nat → Int64} {over : Int32} {rcount : Int32} {rcust : Int32} {ssums : Nat → Int32} {ways : Nat → Int64} {nextWays : Nat → Int64} {reached : Nat → Int64} {nextReached : Nat → Int64} {found : Int32} {least : Int32} {greatest : Int32} (counting : Nat) (custom : Nat) (hc : counting < 3) (hk : custom < 4) (hL2 : L ≤ 40) : Met l yX5_sumOfDraft wsX5_sumOfDraft ({ frames := 4, cells := 0, slots := 0, locals := 92 }) (va_Pc ([.ref (g.2.2 0), .int (nI (counting)), .int (nI (custom))]) (pW g (wX g asked values bytes starts ends (nI (L)) parts texts lengths feet sorts nxt size sums oneSums otherSums byFeet kept over rcount rcust ssums ways nextWays reached nextReached found least greatest))) (ro_Q (.int (smv values counting custom bytes 0 L))) 0 0 (fun _ => False) := by
  refine Met.ofW (cc := cX5_sumOfDraft) (maxL := 3) (ret := (some .int)) (by decide) rfl ?_
  intro p e s m args below meth c s₁ B hml hv
  obtain ⟨rfl, hP, hK, hN⟩ := hv
  have hx := B.exec
  have hb := B.bytes
  have hr := B.returns
  have hts := atoms_spec (ws := wsX5_sumOfDraft) B.pre
  have hown : s.vm.findClass RX5 = some m.cls := findClass_of_methodNamed B.named
  have hlocks := B.notSynchronized
  have hl := lv_entry ([.ref (g.2.2 0), .int (nI (counting)), .int (nI (custom))]) (n := 3) (Nat.le_of_ble_eq_true rfl)
  rw [lg_entry_eq]
  generalize (lg_sl ([.ref (g.2.2 0), .int (nI (counting)), .int (nI (custom))]) ++ List.replicate (3 - (lg_sl ([.ref (g.2.2 0), .int (nI (counting)), .int (nI (custom))])).length) Slot.unset).toArray = ls at hl ⊢
  have hl : lv_has ls 3 [(0, .ref (g.2.2 0)), (1, .int (nI (counting))), (2, .int (nI (custom)))] := hl
  refine lv_aload_n hx hb dX5_sumOfDraft_0 rfl (lv_at hl 0 rfl) ?_
  refine an_get (ci := 5) (v := .ref (g.2.2 1)) (C := RX5) (T := TX5) (N := 6) hx hb hts iw_X5_sumOfDraft_X5 hown hK hP 0 rfl rfl 0 (by decide) (hts _ fl_X5_sumOfDraft_10) rfl dX5_sumOfDraft_1 ?_
  refine lv_iload_n hx hb dX5_sumOfDraft_4 rfl (lv_at hl 1 rfl) ?_
  refine lv_iload_n hx hb dX5_sumOfDraft_5 rfl (lv_at hl 2 rfl) ?_
  refine lv_aload_n hx hb dX5_sumOfDraft_6 rfl (lv_at hl 0 rfl) ?_
  refine an_get (ci := 5) (v := .ref (g.2.2 3)) (C := RX5) (T := TX5) (N := 6) hx hb hts iw_X5_sumOfDraft_X5 hown hK hP 0 rfl rfl 1 (by decide) (hts _ fl_X5_sumOfDraft_19) rfl dX5_sumOfDraft_7 ?_
  refine an_get (ci := 1) (v := .ref (g.2.2 4)) (C := RX1) (T := TX1) (N := 5) hx hb hts iw_X5_sumOfDraft_X1 hown hK hP 3 rfl rfl 0 (by decide) (hts _ fl_X5_sumOfDraft_173) rfl dX5_sumOfDraft_10 ?_
  refine lv_iconst (v := (nI (0))) hx hb dX5_sumOfDraft_13 (by decide) ?_
  refine lv_aload_n hx hb dX5_sumOfDraft_14 rfl (lv_at hl 0 rfl) ?_
  refine an_get (ci := 5) (v := .ref (g.2.2 3)) (C := RX5) (T := TX5) (N := 6) hx hb hts iw_X5_sumOfDraft_X5 hown hK hP 0 rfl rfl 1 (by decide) (hts _ fl_X5_sumOfDraft_19) rfl dX5_sumOfDraft_15 ?_
  refine an_get (ci := 1) (v := .int (nI (L))) (C := RX1) (T := TX1) (N := 5) hx hb hts iw_X5_sumOfDraft_X1 hown hK hP 3 rfl rfl 3 (by decide) (hts _ fl_X5_sumOfDraft_82) rfl dX5_sumOfDraft_18 ?_
  refine ro_call (va_runV (As := [.int (nI (counting)), .int (nI (custom)), .ref (g.2.2 4), .int (nI (0)), .int (nI (L))]) (rest := []) ⟨hx, hb, hml, hown, hts⟩ (c_X0_sumOf_bytes l (g := g) (asked := asked) (values := values) (bytes := bytes) (starts := starts) (ends := ends) (length := nI (L)) (parts := parts) (texts := texts) (lengths := lengths) (feet := feet) (sorts := sorts) (nxt := nxt) (size := size) (sums := sums) (oneSums := oneSums) (otherSums := otherSums) (byFeet := byFeet) (kept := kept) (over := over) (rcount := rcount) (rcust := rcust) (ssums := ssums) (ways := ways) (nextWays := nextWays) (reached := reached) (nextReached := nextReached) (found := found) (least := least) (greatest := greatest) (counting) (custom) (0) (L) hc hk (Nat.zero_le _) hL2) (cwV 5 hts gX5_sumOfDraft_X0_sumOf rfl rfl rfl (by decide +kernel) ⟨Nat.le_of_ble_eq_true rfl, Nat.le_of_ble_eq_true rfl⟩) (pre_V pW_bl (va_recv hK hP (ci := 0) (q0 := 1) rfl rfl) (fun U hU hW => pW_of hP hK hN hU hW)) rfl rfl hl.1 rfl (lv_room (Nat.le_of_ble_eq_true rfl)) dX5_sumOfDraft_21 ⟨Nat.zero_le _, Nat.zero_le _⟩) ?_
  exact ro_iret hx hb hr hlocks (rfl) dX5_sumOfDraft_24
