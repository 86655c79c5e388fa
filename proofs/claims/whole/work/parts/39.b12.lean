theorem iw_X3_vocableAt_X3 : ∀ w ∈ u_ws RX3 TX3 10, w ∈ wsX3_vocableAt := by decide +kernel
theorem iw_X3_vocableAt_X4 : ∀ w ∈ u_ws RX4 TX4 6, w ∈ wsX3_vocableAt := by decide +kernel
theorem fl_X3_vocableAt_9 : Cond.fieldLink RX3 9 (TX3 2).1 (TX3 2).2.1 (TX3 2).2.2.1 ∈ wsX3_vocableAt := by decide +kernel
theorem fl_X3_vocableAt_32 : Cond.fieldLink RX3 32 (TX3 0).1 (TX3 0).2.1 (TX3 0).2.2.1 ∈ wsX3_vocableAt := by decide +kernel
theorem fl_X3_vocableAt_44 : Cond.fieldLink RX3 44 (TX4 5).1 (TX4 5).2.1 (TX4 5).2.2.1 ∈ wsX3_vocableAt := by decide +kernel
theorem fl_X3_vocableAt_50 : Cond.fieldLink RX3 50 (TX4 2).1 (TX4 2).2.1 (TX4 2).2.2.1 ∈ wsX3_vocableAt := by decide +kernel
theorem fl_X3_vocableAt_57 : Cond.fieldLink RX3 57 (TX4 3).1 (TX4 3).2.1 (TX4 3).2.2.1 ∈ wsX3_vocableAt := by decide +kernel
set_option maxHeartbeats 200000 in
set_option maxRecDepth 100000 in
theorem c_X3_vocableAt (l : Launch) {g : GW} {asked : Int64} {values : Nat → Int32} {bytes : Nat → Int32} {starts : Nat → Int32} {ends : Nat → Int32} {length : Int32} {parts : Int32} {texts : Nat → Int32} {lengths : Nat → Int32} {feet : Nat → Int32} {sorts : Nat → Int32} {nxt : Nat → Int32} {nv : Nat} {sums : Nat → Int32} {oneSums : Nat → Int32} {otherSums : Nat → Int32} {byFeet : Nat → Int64} {kept : Nat → Int64} {over : Int32} {rcount : Int32} {rcust : Int32} {ssums : Nat → Int32} {ways : Nat → Int64} {nextWays : Nat → Int64} {reached : Nat → Int64} {nextReached : Nat → Int64} {found : Int32} {least : Int32} {greatest : Int32} {sz : Nat} (ft : Nat) (y : Nat) (number : Nat) (i0 : Nat) (hft : ft ≤ 8) (hy : y ≤ 3000) (hi0 : i0 < 2 ^ 31) (ow : Nat → Nat) (hnv : nv ≤ 10) (hfe : okV feet nv 1 3) (hso : okV sorts nv 0 2) (hsu : ∀ v, v < nv → sums v = nI (ow v) ∧ ow v ≤ 8000) (hkp : keptOK kept (lwy feet sorts nxt ow nv)) (hnum : number < lwy feet sorts nxt ow nv ft 3 y) (hd : dW 25 g.2.2) : Met l yX3_vocableAt wsX3_vocableAt ({ frames := 40, cells := 0, slots := 0, locals := 1000 }) (va_Pc ([.ref (g.2.2 13), .int (nI (ft)), .int (nI (y)), .long (lN (number)), .int (nI (i0))]) (qW g (wX g asked values bytes starts ends length parts texts lengths feet sorts nxt (nI (nv)) sums oneSums otherSums byFeet kept over rcount rcust ssums ways nextWays reached nextReached found least greatest) sz)) (va_Qi (fun (r : Int32) (z : (Nat → Int64)) => r = lnf feet sorts nxt ow nv 8 ft 3 y number i0 ∧ keptOK z (lwy feet sorts nxt ow nv)) (fun (z : (Nat → Int64)) (t : State) => va_P g.1 vwCl (wX g asked values bytes starts ends length parts texts lengths feet sorts nxt (nI (nv)) sums oneSums otherSums byFeet z over rcount rcust ssums ways nextWays reached nextReached found least greatest) t.heap) (aW 25 g.2.2 sz)) 0 0 (aW 25 g.2.2 sz) := by
  refine Met.ofW (cc := cX3_vocableAt) (maxL := 15) (ret := (some .int)) (by decide) rfl ?_
  intro p e s m args below meth c s₁ B hml hv
  obtain ⟨rfl, hsz9, hP, hK, hN⟩ := hv
  subst hsz9
  have hx := B.exec
  have hb := B.bytes
  have hr := B.returns
  have hts := atoms_spec (ws := wsX3_vocableAt) B.pre
  have hown : s.vm.findClass RX3 = some m.cls := findClass_of_methodNamed B.named
  have hlocks := B.notSynchronized
  have hS : va_S (aW 25 g.2.2 s.heap.size) s.heap s.heap [] := va_S.rf
  have hl := lv_entry ([.ref (g.2.2 13), .int (nI (ft)), .int (nI (y)), .long (lN (number)), .int (nI (i0))]) (n := 15) (Nat.le_of_ble_eq_true rfl)
  rw [lg_entry_eq]
  generalize (lg_sl ([.ref (g.2.2 13), .int (nI (ft)), .int (nI (y)), .long (lN (number)), .int (nI (i0))]) ++ List.replicate (15 - (lg_sl ([.ref (g.2.2 13), .int (nI (ft)), .int (nI (y)), .long (lN (number)), .int (nI (i0))])).length) Slot.unset).toArray = ls at hl ⊢
  have hl : lv_has ls 15 [(0, .ref (g.2.2 13)), (1, .int (nI (ft))), (2, .int (nI (y))), (3, .long (lN (number))), (5, .int (nI (i0)))] := hl
  refine lv_iconst (v := (nI (3))) hx hb dX3_vocableAt_0 (by decide) ?_
  refine lv_istore (lv' := [(6, .int (nI (3))), (0, .ref (g.2.2 13)), (1, .int (nI (ft))), (2, .int (nI (y))), (3, .long (lN (number))), (5, .int (nI (i0)))]) hx hb dX3_vocableAt_1 hl (by decide) rfl (fun ls hl => ?_)
  refine lv_iload_n hx hb dX3_vocableAt_3 rfl (lv_at hl 2 rfl) ?_
  refine lv_istore (lv' := [(7, .int (nI (ft))), (6, .int (nI (3))), (0, .ref (g.2.2 13)), (1, .int (nI (ft))), (2, .int (nI (y))), (3, .long (lN (number))), (5, .int (nI (i0)))]) hx hb dX3_vocableAt_4 hl (by decide) rfl (fun ls hl => ?_)
  refine lv_iload_n hx hb dX3_vocableAt_6 rfl (lv_at hl 4 rfl) ?_
  refine lv_istore (lv' := [(8, .int (nI (y))), (7, .int (nI (ft))), (6, .int (nI (3))), (0, .ref (g.2.2 13)), (1, .int (nI (ft))), (2, .int (nI (y))), (3, .long (lN (number))), (5, .int (nI (i0)))]) hx hb dX3_vocableAt_7 hl (by decide) rfl (fun ls hl => ?_)
  refine lv_lload_n hx hb dX3_vocableAt_9 rfl (lv_at hl 6 rfl) ?_
  refine lv_lstore (lv' := [(9, .long (lN (number))), (8, .int (nI (y))), (7, .int (nI (ft))), (6, .int (nI (3))), (0, .ref (g.2.2 13)), (1, .int (nI (ft))), (2, .int (nI (y))), (3, .long (lN (number))), (5, .int (nI (i0)))]) hx hb dX3_vocableAt_10 hl (by decide) rfl (fun ls hl => ?_)
  refine lv_iconst (v := (nI (0))) hx hb dX3_vocableAt_12 (by decide) ?_
  refine lv_istore (lv' := [(11, .int (nI (0))), (9, .long (lN (number))), (8, .int (nI (y))), (7, .int (nI (ft))), (6, .int (nI (3))), (0, .ref (g.2.2 13)), (1, .int (nI (ft))), (2, .int (nI (y))), (3, .long (lN (number))), (5, .int (nI (i0)))]) hx hb dX3_vocableAt_13 hl (by decide) rfl (fun ls hl => ?_)
  have lp_15 : ∀ (n : Nat) (pl : Nat) (f : Nat) (b : Nat) (t2 : Nat) (q2 : Nat) (kp : Nat → Int64), (pl ≤ 8) → (pl ≤ i0) → (f + pl ≤ 8) → (b < 4) → (t2 ≤ 3000) → (q2 < lwy feet sorts nxt ow nv f b t2) → (keptOK kp (lwy feet sorts nxt ow nv)) → (lnf feet sorts nxt ow nv 8 ft 3 y number i0 = lnf feet sorts nxt ow nv (8 - pl) f b t2 q2 (i0 - pl)) → 8 - pl < n → ∀ (H : Heap) (locs : List Loc), va_P g.1 vwCl (wX g asked values bytes starts ends length parts texts lengths feet sorts nxt (nI (nv)) sums oneSums otherSums byFeet kp over rcount rcust ssums ways nextWays reached nextReached found least greatest) H → va_S (aW 25 g.2.2 s.heap.size) s.heap H locs → ∀ (ls : Array Slot), lv_has ls 15 [(0, .ref (g.2.2 13)), (1, .int (nI (ft))), (2, .int (nI (y))), (3, .long (lN (number))), (5, .int (nI (i0))), (6, .int (nI (b))), (7, .int (nI (f))), (8, .int (nI (t2))), (9, .long (lN (q2))), (11, .int (nI (pl)))] → W p l e (headSpec wsX3_vocableAt ({ frames := 40, cells := 0, slots := 0, locals := 1000 })).room s m (([.ref (g.2.2 13), .int (nI (ft)), .int (nI (y)), .long (lN (number)), .int (nI (i0))] : List Value).toArray) below meth c H locs 0 0 (MQ below (va_Qi (fun (r : Int32) (z : (Nat → Int64)) => r = lnf feet sorts nxt ow nv 8 ft 3 y number i0 ∧ keptOK z (lwy feet sorts nxt ow nv)) (fun (z : (Nat → Int64)) (t : State) => va_P g.1 vwCl (wX g asked values bytes starts ends length parts texts lengths feet sorts nxt (nI (nv)) sums oneSums otherSums byFeet z over rcount rcust ssums ways nextWays reached nextReached found least greatest) t.heap) (aW 25 g.2.2 s.heap.size)) (([.ref (g.2.2 13), .int (nI (ft)), .int (nI (y)), .long (lN (number)), .int (nI (i0))] : List Value).toArray) s 0 0 (aW 25 g.2.2 s.heap.size)) (F0 m 15 ls []) := by
    intro n
    induction n with
    | zero => intro pl f b t2 q2 kp hp1 hp2 hf1 hb1 ht1 hq9 hkq hx9 hm; exact absurd hm (Nat.not_lt_zero _)
    | succ n ih_15 =>
      intro pl f b t2 q2 kp hp1 hp2 hf1 hb1 ht1 hq9 hkq hx9 hm_15 H locs hP hS ls hl
      refine lv_iload hx hb dX3_vocableAt_15 (lv_at hl 9 rfl) ?_
      refine lv_bipush (v := (nI (8))) hx hb dX3_vocableAt_17 (by decide) ?_
      refine lv_icmp_ge (tgt := 148) hx hb dX3_vocableAt_19 (by decide) (fun c_19 => ?_) (fun c_19 => ?_)
      · have c_19 := (cv_le_nn (by omega) (by omega)).mp c_19
        refine lv_bipush (v := ((-9 : Int32))) hx hb dX3_vocableAt_148 (by decide) ?_
        exact wr_iret (kp) hx hb hr hlocks (⟨by rw [hx9, show f = 0 by omega, lnf_end], hkq⟩) (fun t ht => show va_P g.1 vwCl (wX g asked values bytes starts ends length parts texts lengths feet sorts nxt (nI (nv)) sums oneSums otherSums byFeet kp over rcount rcust ssums ways nextWays reached nextReached found least greatest) t.heap by rw [ht]; exact hP) hS dX3_vocableAt_150
      · have c_19 := (not_congr (cv_le_nn (by omega) (by omega))).mp c_19
        refine lv_iload hx hb dX3_vocableAt_22 (lv_at hl 6 rfl) ?_
        refine lv_if_le (tgt := 148) hx hb dX3_vocableAt_24 (by decide) (fun c_24 => ?_) (fun c_24 => ?_)
        · have c_24 := (cz_le_n (by omega)).mp c_24
          refine lv_bipush (v := ((-9 : Int32))) hx hb dX3_vocableAt_148 (by decide) ?_
          exact wr_iret (kp) hx hb hr hlocks (⟨by rw [hx9, show f = 0 by omega, lnf_end], hkq⟩) (fun t ht => show va_P g.1 vwCl (wX g asked values bytes starts ends length parts texts lengths feet sorts nxt (nI (nv)) sums oneSums otherSums byFeet kp over rcount rcust ssums ways nextWays reached nextReached found least greatest) t.heap by rw [ht]; exact hP) hS dX3_vocableAt_150
        · have c_24 := (not_congr (cz_le_n (by omega))).mp c_24
          have hn1 : 1 ≤ nv := by
            rcases Nat.eq_zero_or_pos nv with z | z
            · rw [← lwy_s hfe (by omega), z] at hq9; exact absurd hq9 (Nat.not_lt_zero _)
            · exact z
          have hqb := lwy_lt (fe := feet) (so := sorts) (nx := nxt) (ow := ow) (s := b) (t := t2) hnv hfe (show f ≤ 8 by omega)
          refine lv_iconst (v := (nI (0))) hx hb dX3_vocableAt_27 (by decide) ?_
          refine lv_istore (lv' := [(12, .int (nI (0))), (0, .ref (g.2.2 13)), (1, .int (nI (ft))), (2, .int (nI (y))), (3, .long (lN (number))), (5, .int (nI (i0))), (6, .int (nI (b))), (7, .int (nI (f))), (8, .int (nI (t2))), (9, .long (lN (q2))), (11, .int (nI (pl)))]) hx hb dX3_vocableAt_28 hl (by decide) rfl (fun ls hl => ?_)
          refine lv_aload_n hx hb dX3_vocableAt_30 rfl (lv_at hl 1 rfl) ?_
          refine lv_iload hx hb dX3_vocableAt_31 (lv_at hl 0 rfl) ?_
          refine lv_iload hx hb dX3_vocableAt_33 (lv_at hl 6 rfl) ?_
          refine lv_iload hx hb dX3_vocableAt_35 (lv_at hl 7 rfl) ?_
          refine lv_iload hx hb dX3_vocableAt_37 (lv_at hl 8 rfl) ?_
          refine wr_calll (w := (fun (z : (Nat → Int64)) => (wX g asked values bytes starts ends length parts texts lengths feet sorts nxt (nI (nv)) sums oneSums otherSums byFeet z over rcount rcust ssums ways nextWays reached nextReached found least greatest))) (va_runV (As := [.int (nI (0)), .int (nI (b)), .int (nI (f)), .int (nI (t2))]) (rest := []) ⟨hx, hb, hml, hown, hts⟩ (c_X3_waysWith l (g := g) (asked := asked) (values := values) (bytes := bytes) (starts := starts) (ends := ends) (length := length) (parts := parts) (texts := texts) (lengths := lengths) (feet := feet) (sorts := sorts) (nxt := nxt) (nv := nv) (sums := sums) (oneSums := oneSums) (otherSums := otherSums) (byFeet := byFeet) (kept := kp) (over := over) (rcount := rcount) (rcust := rcust) (ssums := ssums) (ways := ways) (nextWays := nextWays) (reached := reached) (nextReached := nextReached) (found := found) (least := least) (greatest := greatest) (sz := _) (0) (b) (f) (t2) (by omega) hb1 (by omega) ht1 ow hnv hfe hso hsu hkq (fun f2 hf2 => kw_all l ow hnv hfe hso hsu hd (f2 + 1) f2 (Nat.lt_succ_self _) (by omega)) hd) (cwV 4 hts gX3_vocableAt_X3_waysWith rfl rfl rfl (by decide +kernel) ⟨show 3 * f + 1 + 1 ≤ 40 by omega, show 8 + (7 + 11) + (90 * f + 30) ≤ 1000 by omega⟩) (pre_V qW_bl (va_recv hK hP (ci := 3) (q0 := 13) rfl rfl) (fun U hU hW => ⟨by rw [hU], pW_of hP hK hN hU hW⟩)) rfl rfl hl.1 rfl (lv_room (Nat.le_of_ble_eq_true rfl)) dX3_vocableAt_39 ⟨Nat.zero_le _, Nat.zero_le _⟩) hS (fun r39 kept39 H locs hp39 hP hS => ?_)
          have hP : va_P g.1 vwCl (wX g asked values bytes starts ends length parts texts lengths feet sorts nxt (nI (nv)) sums oneSums otherSums byFeet kept39 over rcount rcust ssums ways nextWays reached nextReached found least greatest) H := hP
          refine ln_tol (y := (lN (lst feet sorts nxt ow (lwy feet sorts nxt ow nv) f b t2 0))) (hp39.1) ?_
          refine lv_lstore (lv' := [(13, .long (lN (lst feet sorts nxt ow (lwy feet sorts nxt ow nv) f b t2 0))), (12, .int (nI (0))), (0, .ref (g.2.2 13)), (1, .int (nI (ft))), (2, .int (nI (y))), (3, .long (lN (number))), (5, .int (nI (i0))), (6, .int (nI (b))), (7, .int (nI (f))), (8, .int (nI (t2))), (9, .long (lN (q2))), (11, .int (nI (pl)))]) hx hb dX3_vocableAt_42 hl (by decide) rfl (fun ls hl => ?_)
          have lp_44 : ∀ (n : Nat) (v : Nat) (kr : Nat → Int64), (v < nv) → (lsq feet sorts nxt ow (lwy feet sorts nxt ow nv) f b t2 v ≤ q2) → (keptOK kr (lwy feet sorts nxt ow nv)) → nv - v < n → ∀ (H : Heap) (locs : List Loc), va_P g.1 vwCl (wX g asked values bytes starts ends length parts texts lengths feet sorts nxt (nI (nv)) sums oneSums otherSums byFeet kr over rcount rcust ssums ways nextWays reached nextReached found least greatest) H → va_S (aW 25 g.2.2 s.heap.size) s.heap H locs → ∀ (ls : Array Slot), lv_has ls 15 [(0, .ref (g.2.2 13)), (1, .int (nI (ft))), (2, .int (nI (y))), (3, .long (lN (number))), (5, .int (nI (i0))), (6, .int (nI (b))), (7, .int (nI (f))), (8, .int (nI (t2))), (9, .long (lN (q2 - lsq feet sorts nxt ow (lwy feet sorts nxt ow nv) f b t2 v))), (11, .int (nI (pl))), (12, .int (nI (v))), (13, .long (lN (lst feet sorts nxt ow (lwy feet sorts nxt ow nv) f b t2 v)))] → W p l e (headSpec wsX3_vocableAt ({ frames := 40, cells := 0, slots := 0, locals := 1000 })).room s m (([.ref (g.2.2 13), .int (nI (ft)), .int (nI (y)), .long (lN (number)), .int (nI (i0))] : List Value).toArray) below meth c H locs 0 0 (MQ below (va_Qi (fun (r : Int32) (z : (Nat → Int64)) => r = lnf feet sorts nxt ow nv 8 ft 3 y number i0 ∧ keptOK z (lwy feet sorts nxt ow nv)) (fun (z : (Nat → Int64)) (t : State) => va_P g.1 vwCl (wX g asked values bytes starts ends length parts texts lengths feet sorts nxt (nI (nv)) sums oneSums otherSums byFeet z over rcount rcust ssums ways nextWays reached nextReached found least greatest) t.heap) (aW 25 g.2.2 s.heap.size)) (([.ref (g.2.2 13), .int (nI (ft)), .int (nI (y)), .long (lN (number)), .int (nI (i0))] : List Value).toArray) s 0 0 (aW 25 g.2.2 s.heap.size)) (F0 m 44 ls []) := by
            intro n
            induction n with
            | zero => intro v kr hv1 hvq hkr hm; exact absurd hm (Nat.not_lt_zero _)
            | succ n ih_44 =>
              intro v kr hv1 hvq hkr hm_44 H locs hP hS ls hl
              refine lv_iload hx hb dX3_vocableAt_44 (lv_at hl 10 rfl) ?_
              refine lv_aload_n hx hb dX3_vocableAt_46 rfl (lv_at hl 0 rfl) ?_
              refine an_get (ci := 3) (v := .ref (g.2.2 7)) (C := RX3) (T := TX3) (N := 10) hx hb hts iw_X3_vocableAt_X3 hown hK hP 13 rfl rfl 0 (by decide) (hts _ fl_X3_vocableAt_32) rfl dX3_vocableAt_47 ?_
              refine an_get (ci := 4) (v := .int (nI (nv))) (C := RX4) (T := TX4) (N := 6) hx hb hts iw_X3_vocableAt_X4 hown hK hP 7 rfl rfl 5 (by decide) (hts _ fl_X3_vocableAt_44) rfl dX3_vocableAt_50 ?_
              refine lv_iconst (v := (nI (1))) hx hb dX3_vocableAt_53 (by decide) ?_
              refine ln_isub hx hb (by omega) dX3_vocableAt_54 ?_
              refine lv_icmp_ge (tgt := 93) hx hb dX3_vocableAt_55 (by decide) (fun c_55 => ?_) (fun c_55 => ?_)
              · have c_55 := (cv_le_nn (by omega) (by omega)).mp c_55
                have hnx : q2 < lsq feet sorts nxt ow (lwy feet sorts nxt ow nv) f b t2 (v + 1) := by
                  rw [lsq_1]
                  first | omega | (have e9 : v + 1 = nv := by omega
                                   rw [← lsq_1, e9, lwy_s hfe (by omega)]; exact hq9)
                have hpos := lst_pos (fe := feet) (so := sorts) (nx := nxt) (ow := ow) (w := lwy feet sorts nxt ow nv) (f := f) (s := b) (t := t2) (v := v) (by rw [lsq_1] at hnx; omega)
                have hf9 := hfe v (by omega)
                have hs9 := hso v (by omega)
                have ho9 := hsu v (by omega)
                refine lv_iload hx hb dX3_vocableAt_93 (lv_at hl 9 rfl) ?_
                refine lv_iload hx hb dX3_vocableAt_95 (lv_at hl 4 rfl) ?_
                refine lv_icmp_ne (tgt := 103) hx hb dX3_vocableAt_97 (by decide) (fun c_97 => ?_) (fun c_97 => ?_)
                · have c_97 := (not_congr (cv_eq_nn (by omega) (by omega))).mp c_97
                  refine lv_aload_n hx hb dX3_vocableAt_103 rfl (lv_at hl 0 rfl) ?_
                  refine an_get (ci := 3) (v := .ref (g.2.2 7)) (C := RX3) (T := TX3) (N := 10) hx hb hts iw_X3_vocableAt_X3 hown hK hP 13 rfl rfl 0 (by decide) (hts _ fl_X3_vocableAt_32) rfl dX3_vocableAt_104 ?_
                  refine an_get (ci := 4) (v := .ref (g.2.2 11)) (C := RX4) (T := TX4) (N := 6) hx hb hts iw_X3_vocableAt_X4 hown hK hP 7 rfl rfl 3 (by decide) (hts _ fl_X3_vocableAt_57) rfl dX3_vocableAt_107 ?_
                  refine lv_iload hx hb dX3_vocableAt_110 (lv_at hl 10 rfl) ?_
                  refine an_iald (f := sorts) hx hb hK hP 11 0 rfl rfl (by decide) (by omega) dX3_vocableAt_112 ?_
                  refine ln_toi (y := (nI (tn (sorts v)))) (hs9.1) ?_
                  refine lv_istore (lv' := [(6, .int (nI (tn (sorts v)))), (0, .ref (g.2.2 13)), (1, .int (nI (ft))), (2, .int (nI (y))), (3, .long (lN (number))), (5, .int (nI (i0))), (7, .int (nI (f))), (8, .int (nI (t2))), (9, .long (lN (q2 - lsq feet sorts nxt ow (lwy feet sorts nxt ow nv) f b t2 v))), (11, .int (nI (pl))), (12, .int (nI (v))), (13, .long (lN (lst feet sorts nxt ow (lwy feet sorts nxt ow nv) f b t2 v)))]) hx hb dX3_vocableAt_113 hl (by decide) rfl (fun ls hl => ?_)
                  refine lv_iload hx hb dX3_vocableAt_115 (lv_at hl 6 rfl) ?_
                  refine lv_aload_n hx hb dX3_vocableAt_117 rfl (lv_at hl 1 rfl) ?_
                  refine an_get (ci := 3) (v := .ref (g.2.2 7)) (C := RX3) (T := TX3) (N := 10) hx hb hts iw_X3_vocableAt_X3 hown hK hP 13 rfl rfl 0 (by decide) (hts _ fl_X3_vocableAt_32) rfl dX3_vocableAt_118 ?_
                  refine an_get (ci := 4) (v := .ref (g.2.2 10)) (C := RX4) (T := TX4) (N := 6) hx hb hts iw_X3_vocableAt_X4 hown hK hP 7 rfl rfl 2 (by decide) (hts _ fl_X3_vocableAt_50) rfl dX3_vocableAt_121 ?_
                  refine lv_iload hx hb dX3_vocableAt_124 (lv_at hl 10 rfl) ?_
                  refine an_iald (f := feet) hx hb hK hP 10 0 rfl rfl (by decide) (by omega) dX3_vocableAt_126 ?_
                  refine ln_toi (y := (nI (tn (feet v)))) (hf9.1) ?_
                  refine ln_isub hx hb (by omega) dX3_vocableAt_127 ?_
                  refine lv_istore (lv' := [(7, .int (nI (f - (tn (feet v))))), (6, .int (nI (tn (sorts v)))), (0, .ref (g.2.2 13)), (1, .int (nI (ft))), (2, .int (nI (y))), (3, .long (lN (number))), (5, .int (nI (i0))), (8, .int (nI (t2))), (9, .long (lN (q2 - lsq feet sorts nxt ow (lwy feet sorts nxt ow nv) f b t2 v))), (11, .int (nI (pl))), (12, .int (nI (v))), (13, .long (lN (lst feet sorts nxt ow (lwy feet sorts nxt ow nv) f b t2 v)))]) hx hb dX3_vocableAt_128 hl (by decide) rfl (fun ls hl => ?_)
                  refine lv_iload hx hb dX3_vocableAt_130 (lv_at hl 7 rfl) ?_
                  refine lv_aload_n hx hb dX3_vocableAt_132 rfl (lv_at hl 2 rfl) ?_
                  refine an_get (ci := 3) (v := .ref (g.2.2 14)) (C := RX3) (T := TX3) (N := 10) hx hb hts iw_X3_vocableAt_X3 hown hK hP 13 rfl rfl 2 (by decide) (hts _ fl_X3_vocableAt_9) rfl dX3_vocableAt_133 ?_
                  refine lv_iload hx hb dX3_vocableAt_136 (lv_at hl 10 rfl) ?_
                  refine an_iald (f := sums) hx hb hK hP 14 0 rfl rfl (by decide) (by omega) dX3_vocableAt_138 ?_
                  refine ln_toi (y := (nI (ow v))) (ho9.1) ?_
                  refine ln_isub hx hb (by omega) dX3_vocableAt_139 ?_
                  refine lv_istore (lv' := [(8, .int (nI (t2 - (ow v)))), (7, .int (nI (f - (tn (feet v))))), (6, .int (nI (tn (sorts v)))), (0, .ref (g.2.2 13)), (1, .int (nI (ft))), (2, .int (nI (y))), (3, .long (lN (number))), (5, .int (nI (i0))), (9, .long (lN (q2 - lsq feet sorts nxt ow (lwy feet sorts nxt ow nv) f b t2 v))), (11, .int (nI (pl))), (12, .int (nI (v))), (13, .long (lN (lst feet sorts nxt ow (lwy feet sorts nxt ow nv) f b t2 v)))]) hx hb dX3_vocableAt_140 hl (by decide) rfl (fun ls hl => ?_)
                  refine lv_iinc (v := (nI (pl + 1))) (lv' := [(11, .int (nI (pl + 1))), (8, .int (nI (t2 - (ow v)))), (7, .int (nI (f - (tn (feet v))))), (6, .int (nI (tn (sorts v)))), (0, .ref (g.2.2 13)), (1, .int (nI (ft))), (2, .int (nI (y))), (3, .long (lN (number))), (5, .int (nI (i0))), (9, .long (lN (q2 - lsq feet sorts nxt ow (lwy feet sorts nxt ow nv) f b t2 v))), (12, .int (nI (v))), (13, .long (lN (lst feet sorts nxt ow (lwy feet sorts nxt ow nv) f b t2 v)))]) hx hb dX3_vocableAt_142 hl (k := 9) rfl (nI_add _ 1) (by decide) rfl (fun ls hl => ?_)
                  refine lv_goto (tgt := 15) hx hb dX3_vocableAt_145 (by decide) ?_
                  exact ih_15 (pl + 1) (f - tn (feet v)) (tn (sorts v)) (t2 - ow v) (q2 - lsq feet sorts nxt ow (lwy feet sorts nxt ow nv) f b t2 v) kr (by omega) (by omega) (by omega) (by omega) (by omega) (by rw [← hpos.2.2]; rw [lsq_1] at hnx; omega) (hkr) (hx9.trans (by rw [lnf_on (i := i0 - pl) (by omega) (by omega) (show v < nv by omega) (by omega) hvq hnx]; congr 1)) (by omega) _ _ hP hS ls (lv_sub hl [4, 5, 6, 7, 8, 3, 2, 1, 9, 0] rfl)
                · have c_97 := (cv_eq_nn (by omega) (by omega)).mp c_97
                  have e97 : i0 = pl := by omega
                  refine lv_iload hx hb dX3_vocableAt_100 (lv_at hl 10 rfl) ?_
                  exact wr_iret (kr) hx hb hr hlocks (⟨by rw [hx9, e97, Nat.sub_self, lnf_here (by omega) (by omega) hv1 hvq hnx], hkr⟩) (fun t ht => show va_P g.1 vwCl (wX g asked values bytes starts ends length parts texts lengths feet sorts nxt (nI (nv)) sums oneSums otherSums byFeet kr over rcount rcust ssums ways nextWays reached nextReached found least greatest) t.heap by rw [ht]; exact hP) hS dX3_vocableAt_102
              · have c_55 := (not_congr (cv_le_nn (by omega) (by omega))).mp c_55
                refine lv_lload hx hb dX3_vocableAt_58 (lv_at hl 8 rfl) ?_
                refine lv_lload hx hb dX3_vocableAt_60 (lv_at hl 11 rfl) ?_
                refine W.lcmp hx hb dX3_vocableAt_62 ?_
                refine lv_if_lt (tgt := 93) hx hb dX3_vocableAt_63 (by decide) (fun c_63 => ?_) (fun c_63 => ?_)
                · have c_63 := (cx_lt (by first | exact Nat.lt_trans (lst_lt hnv hfe (by omega)) (by decide) | omega) (by first | exact Nat.lt_trans (lst_lt hnv hfe (by omega)) (by decide) | omega)).1 c_63
                  have hnx : q2 < lsq feet sorts nxt ow (lwy feet sorts nxt ow nv) f b t2 (v + 1) := by
                    rw [lsq_1]
                    first | omega | (have e9 : v + 1 = nv := by omega
                                     rw [← lsq_1, e9, lwy_s hfe (by omega)]; exact hq9)
                  have hpos := lst_pos (fe := feet) (so := sorts) (nx := nxt) (ow := ow) (w := lwy feet sorts nxt ow nv) (f := f) (s := b) (t := t2) (v := v) (by rw [lsq_1] at hnx; omega)
                  have hf9 := hfe v (by omega)
                  have hs9 := hso v (by omega)
                  have ho9 := hsu v (by omega)
                  refine lv_iload hx hb dX3_vocableAt_93 (lv_at hl 9 rfl) ?_
                  refine lv_iload hx hb dX3_vocableAt_95 (lv_at hl 4 rfl) ?_
                  refine lv_icmp_ne (tgt := 103) hx hb dX3_vocableAt_97 (by decide) (fun c_97 => ?_) (fun c_97 => ?_)
                  · have c_97 := (not_congr (cv_eq_nn (by omega) (by omega))).mp c_97
                    refine lv_aload_n hx hb dX3_vocableAt_103 rfl (lv_at hl 0 rfl) ?_
                    refine an_get (ci := 3) (v := .ref (g.2.2 7)) (C := RX3) (T := TX3) (N := 10) hx hb hts iw_X3_vocableAt_X3 hown hK hP 13 rfl rfl 0 (by decide) (hts _ fl_X3_vocableAt_32) rfl dX3_vocableAt_104 ?_
                    refine an_get (ci := 4) (v := .ref (g.2.2 11)) (C := RX4) (T := TX4) (N := 6) hx hb hts iw_X3_vocableAt_X4 hown hK hP 7 rfl rfl 3 (by decide) (hts _ fl_X3_vocableAt_57) rfl dX3_vocableAt_107 ?_
                    refine lv_iload hx hb dX3_vocableAt_110 (lv_at hl 10 rfl) ?_
                    refine an_iald (f := sorts) hx hb hK hP 11 0 rfl rfl (by decide) (by omega) dX3_vocableAt_112 ?_
                    refine ln_toi (y := (nI (tn (sorts v)))) (hs9.1) ?_
                    refine lv_istore (lv' := [(6, .int (nI (tn (sorts v)))), (0, .ref (g.2.2 13)), (1, .int (nI (ft))), (2, .int (nI (y))), (3, .long (lN (number))), (5, .int (nI (i0))), (7, .int (nI (f))), (8, .int (nI (t2))), (9, .long (lN (q2 - lsq feet sorts nxt ow (lwy feet sorts nxt ow nv) f b t2 v))), (11, .int (nI (pl))), (12, .int (nI (v))), (13, .long (lN (lst feet sorts nxt ow (lwy feet sorts nxt ow nv) f b t2 v)))]) hx hb dX3_vocableAt_113 hl (by decide) rfl (fun ls hl => ?_)
                    refine lv_iload hx hb dX3_vocableAt_115 (lv_at hl 6 rfl) ?_
                    refine lv_aload_n hx hb dX3_vocableAt_117 rfl (lv_at hl 1 rfl) ?_
                    refine an_get (ci := 3) (v := .ref (g.2.2 7)) (C := RX3) (T := TX3) (N := 10) hx hb hts iw_X3_vocableAt_X3 hown hK hP 13 rfl rfl 0 (by decide) (hts _ fl_X3_vocableAt_32) rfl dX3_vocableAt_118 ?_
                    refine an_get (ci := 4) (v := .ref (g.2.2 10)) (C := RX4) (T := TX4) (N := 6) hx hb hts iw_X3_vocableAt_X4 hown hK hP 7 rfl rfl 2 (by decide) (hts _ fl_X3_vocableAt_50) rfl dX3_vocableAt_121 ?_
                    refine lv_iload hx hb dX3_vocableAt_124 (lv_at hl 10 rfl) ?_
                    refine an_iald (f := feet) hx hb hK hP 10 0 rfl rfl (by decide) (by omega) dX3_vocableAt_126 ?_
                    refine ln_toi (y := (nI (tn (feet v)))) (hf9.1) ?_
                    refine ln_isub hx hb (by omega) dX3_vocableAt_127 ?_
                    refine lv_istore (lv' := [(7, .int (nI (f - (tn (feet v))))), (6, .int (nI (tn (sorts v)))), (0, .ref (g.2.2 13)), (1, .int (nI (ft))), (2, .int (nI (y))), (3, .long (lN (number))), (5, .int (nI (i0))), (8, .int (nI (t2))), (9, .long (lN (q2 - lsq feet sorts nxt ow (lwy feet sorts nxt ow nv) f b t2 v))), (11, .int (nI (pl))), (12, .int (nI (v))), (13, .long (lN (lst feet sorts nxt ow (lwy feet sorts nxt ow nv) f b t2 v)))]) hx hb dX3_vocableAt_128 hl (by decide) rfl (fun ls hl => ?_)
                    refine lv_iload hx hb dX3_vocableAt_130 (lv_at hl 7 rfl) ?_
                    refine lv_aload_n hx hb dX3_vocableAt_132 rfl (lv_at hl 2 rfl) ?_
                    refine an_get (ci := 3) (v := .ref (g.2.2 14)) (C := RX3) (T := TX3) (N := 10) hx hb hts iw_X3_vocableAt_X3 hown hK hP 13 rfl rfl 2 (by decide) (hts _ fl_X3_vocableAt_9) rfl dX3_vocableAt_133 ?_
                    refine lv_iload hx hb dX3_vocableAt_136 (lv_at hl 10 rfl) ?_
                    refine an_iald (f := sums) hx hb hK hP 14 0 rfl rfl (by decide) (by omega) dX3_vocableAt_138 ?_
                    refine ln_toi (y := (nI (ow v))) (ho9.1) ?_
                    refine ln_isub hx hb (by omega) dX3_vocableAt_139 ?_
                    refine lv_istore (lv' := [(8, .int (nI (t2 - (ow v)))), (7, .int (nI (f - (tn (feet v))))), (6, .int (nI (tn (sorts v)))), (0, .ref (g.2.2 13)), (1, .int (nI (ft))), (2, .int (nI (y))), (3, .long (lN (number))), (5, .int (nI (i0))), (9, .long (lN (q2 - lsq feet sorts nxt ow (lwy feet sorts nxt ow nv) f b t2 v))), (11, .int (nI (pl))), (12, .int (nI (v))), (13, .long (lN (lst feet sorts nxt ow (lwy feet sorts nxt ow nv) f b t2 v)))]) hx hb dX3_vocableAt_140 hl (by decide) rfl (fun ls hl => ?_)
                    refine lv_iinc (v := (nI (pl + 1))) (lv' := [(11, .int (nI (pl + 1))), (8, .int (nI (t2 - (ow v)))), (7, .int (nI (f - (tn (feet v))))), (6, .int (nI (tn (sorts v)))), (0, .ref (g.2.2 13)), (1, .int (nI (ft))), (2, .int (nI (y))), (3, .long (lN (number))), (5, .int (nI (i0))), (9, .long (lN (q2 - lsq feet sorts nxt ow (lwy feet sorts nxt ow nv) f b t2 v))), (12, .int (nI (v))), (13, .long (lN (lst feet sorts nxt ow (lwy feet sorts nxt ow nv) f b t2 v)))]) hx hb dX3_vocableAt_142 hl (k := 9) rfl (nI_add _ 1) (by decide) rfl (fun ls hl => ?_)
                    refine lv_goto (tgt := 15) hx hb dX3_vocableAt_145 (by decide) ?_
                    exact ih_15 (pl + 1) (f - tn (feet v)) (tn (sorts v)) (t2 - ow v) (q2 - lsq feet sorts nxt ow (lwy feet sorts nxt ow nv) f b t2 v) kr (by omega) (by omega) (by omega) (by omega) (by omega) (by rw [← hpos.2.2]; rw [lsq_1] at hnx; omega) (hkr) (hx9.trans (by rw [lnf_on (i := i0 - pl) (by omega) (by omega) (show v < nv by omega) (by omega) hvq hnx]; congr 1)) (by omega) _ _ hP hS ls (lv_sub hl [4, 5, 6, 7, 8, 3, 2, 1, 9, 0] rfl)
                  · have c_97 := (cv_eq_nn (by omega) (by omega)).mp c_97
                    have e97 : i0 = pl := by omega
                    refine lv_iload hx hb dX3_vocableAt_100 (lv_at hl 10 rfl) ?_
                    exact wr_iret (kr) hx hb hr hlocks (⟨by rw [hx9, e97, Nat.sub_self, lnf_here (by omega) (by omega) hv1 hvq hnx], hkr⟩) (fun t ht => show va_P g.1 vwCl (wX g asked values bytes starts ends length parts texts lengths feet sorts nxt (nI (nv)) sums oneSums otherSums byFeet kr over rcount rcust ssums ways nextWays reached nextReached found least greatest) t.heap by rw [ht]; exact hP) hS dX3_vocableAt_102
                · have c_63 := (cx_lt (by first | exact Nat.lt_trans (lst_lt hnv hfe (by omega)) (by decide) | omega) (by first | exact Nat.lt_trans (lst_lt hnv hfe (by omega)) (by decide) | omega)).2 c_63
                  refine lv_lload hx hb dX3_vocableAt_66 (lv_at hl 8 rfl) ?_
                  refine lv_lload hx hb dX3_vocableAt_68 (lv_at hl 11 rfl) ?_
                  refine ln_lsub hx hb (by omega) dX3_vocableAt_70 ?_
                  refine ln_tol (y := (lN (q2 - lsq feet sorts nxt ow (lwy feet sorts nxt ow nv) f b t2 (v + 1)))) (by rw [Nat.sub_sub, ← lsq_1]) ?_
                  refine lv_lstore (lv' := [(9, .long (lN (q2 - lsq feet sorts nxt ow (lwy feet sorts nxt ow nv) f b t2 (v + 1)))), (0, .ref (g.2.2 13)), (1, .int (nI (ft))), (2, .int (nI (y))), (3, .long (lN (number))), (5, .int (nI (i0))), (6, .int (nI (b))), (7, .int (nI (f))), (8, .int (nI (t2))), (11, .int (nI (pl))), (12, .int (nI (v))), (13, .long (lN (lst feet sorts nxt ow (lwy feet sorts nxt ow nv) f b t2 v)))]) hx hb dX3_vocableAt_71 hl (by decide) rfl (fun ls hl => ?_)
                  refine lv_iinc (v := (nI (v + 1))) (lv' := [(12, .int (nI (v + 1))), (9, .long (lN (q2 - lsq feet sorts nxt ow (lwy feet sorts nxt ow nv) f b t2 (v + 1)))), (0, .ref (g.2.2 13)), (1, .int (nI (ft))), (2, .int (nI (y))), (3, .long (lN (number))), (5, .int (nI (i0))), (6, .int (nI (b))), (7, .int (nI (f))), (8, .int (nI (t2))), (11, .int (nI (pl))), (13, .long (lN (lst feet sorts nxt ow (lwy feet sorts nxt ow nv) f b t2 v)))]) hx hb dX3_vocableAt_73 hl (k := 10) rfl (nI_add _ 1) (by decide) rfl (fun ls hl => ?_)
                  refine lv_aload_n hx hb dX3_vocableAt_76 rfl (lv_at hl 2 rfl) ?_
                  refine lv_iload hx hb dX3_vocableAt_77 (lv_at hl 0 rfl) ?_
                  refine lv_iload hx hb dX3_vocableAt_79 (lv_at hl 7 rfl) ?_
                  refine lv_iload hx hb dX3_vocableAt_81 (lv_at hl 8 rfl) ?_
                  refine lv_iload hx hb dX3_vocableAt_83 (lv_at hl 9 rfl) ?_
                  refine wr_calll (w := (fun (z : (Nat → Int64)) => (wX g asked values bytes starts ends length parts texts lengths feet sorts nxt (nI (nv)) sums oneSums otherSums byFeet z over rcount rcust ssums ways nextWays reached nextReached found least greatest))) (va_runV (As := [.int (nI (v + 1)), .int (nI (b)), .int (nI (f)), .int (nI (t2))]) (rest := []) ⟨hx, hb, hml, hown, hts⟩ (c_X3_waysWith l (g := g) (asked := asked) (values := values) (bytes := bytes) (starts := starts) (ends := ends) (length := length) (parts := parts) (texts := texts) (lengths := lengths) (feet := feet) (sorts := sorts) (nxt := nxt) (nv := nv) (sums := sums) (oneSums := oneSums) (otherSums := otherSums) (byFeet := byFeet) (kept := kr) (over := over) (rcount := rcount) (rcust := rcust) (ssums := ssums) (ways := ways) (nextWays := nextWays) (reached := reached) (nextReached := nextReached) (found := found) (least := least) (greatest := greatest) (sz := _) (v + 1) (b) (f) (t2) (by omega) hb1 (by omega) ht1 ow hnv hfe hso hsu hkr (fun f2 hf2 => kw_all l ow hnv hfe hso hsu hd (f2 + 1) f2 (Nat.lt_succ_self _) (by omega)) hd) (cwV 4 hts gX3_vocableAt_X3_waysWith rfl rfl rfl (by decide +kernel) ⟨show 3 * f + 1 + 1 ≤ 40 by omega, show 8 + (7 + 11) + (90 * f + 30) ≤ 1000 by omega⟩) (pre_V qW_bl (va_recv hK hP (ci := 3) (q0 := 13) rfl rfl) (fun U hU hW => ⟨by rw [hU], pW_of hP hK hN hU hW⟩)) rfl rfl hl.1 rfl (lv_room (Nat.le_of_ble_eq_true rfl)) dX3_vocableAt_85 ⟨Nat.zero_le _, Nat.zero_le _⟩) hS (fun r85 kept85 H locs hp85 hP hS => ?_)
                  have hP : va_P g.1 vwCl (wX g asked values bytes starts ends length parts texts lengths feet sorts nxt (nI (nv)) sums oneSums otherSums byFeet kept85 over rcount rcust ssums ways nextWays reached nextReached found least greatest) H := hP
                  refine ln_tol (y := (lN (lst feet sorts nxt ow (lwy feet sorts nxt ow nv) f b t2 (v + 1)))) (hp85.1) ?_
                  refine lv_lstore (lv' := [(13, .long (lN (lst feet sorts nxt ow (lwy feet sorts nxt ow nv) f b t2 (v + 1)))), (12, .int (nI (v + 1))), (9, .long (lN (q2 - lsq feet sorts nxt ow (lwy feet sorts nxt ow nv) f b t2 (v + 1)))), (0, .ref (g.2.2 13)), (1, .int (nI (ft))), (2, .int (nI (y))), (3, .long (lN (number))), (5, .int (nI (i0))), (6, .int (nI (b))), (7, .int (nI (f))), (8, .int (nI (t2))), (11, .int (nI (pl)))]) hx hb dX3_vocableAt_88 hl (by decide) rfl (fun ls hl => ?_)
                  refine lv_goto (tgt := 44) hx hb dX3_vocableAt_90 (by decide) ?_
                  exact ih_44 (v + 1) kept85 (by omega) (by rw [lsq_1]; omega) (hp85.2) (by omega) _ _ hP hS ls (lv_sub hl [3, 4, 5, 6, 7, 8, 9, 10, 2, 11, 1, 0] rfl)
          exact lp_44 (nv - (0) + 1) 0 kept39 (by omega) (Nat.zero_le _) (hp39.2) (Nat.lt_succ_self _) _ _ hP hS ls (lv_sub hl [2, 3, 4, 5, 6, 7, 8, 9, 10, 11, 1, 0] rfl)
  exact lp_15 (8 - (0) + 1) 0 ft 3 y number kept (by omega) (by omega) (by omega) (by omega) (by omega) (hnum) (hkp) (rfl) (Nat.lt_succ_self _) _ _ hP hS ls (lv_sub hl [5, 6, 7, 8, 9, 4, 3, 2, 1, 0] rfl)
