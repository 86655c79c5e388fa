theorem iw_X2_readPart_X2 : ∀ w ∈ u_ws RX2 TX2 11, w ∈ wsX2_readPart := by decide +kernel
theorem iw_X2_readPart_X4 : ∀ w ∈ u_ws RX4 TX4 6, w ∈ wsX2_readPart := by decide +kernel
theorem fl_X2_readPart_15 : Cond.fieldLink RX2 15 (TX2 4).1 (TX2 4).2.1 (TX2 4).2.2.1 ∈ wsX2_readPart := by decide +kernel
theorem fl_X2_readPart_19 : Cond.fieldLink RX2 19 (TX2 5).1 (TX2 5).2.1 (TX2 5).2.2.1 ∈ wsX2_readPart := by decide +kernel
theorem fl_X2_readPart_28 : Cond.fieldLink RX2 28 (TX2 0).1 (TX2 0).2.1 (TX2 0).2.2.1 ∈ wsX2_readPart := by decide +kernel
theorem fl_X2_readPart_32 : Cond.fieldLink RX2 32 (TX2 1).1 (TX2 1).2.1 (TX2 1).2.2.1 ∈ wsX2_readPart := by decide +kernel
theorem fl_X2_readPart_40 : Cond.fieldLink RX2 40 (TX4 5).1 (TX4 5).2.1 (TX4 5).2.2.1 ∈ wsX2_readPart := by decide +kernel
theorem fl_X2_readPart_73 : Cond.fieldLink RX2 73 (TX4 3).1 (TX4 3).2.1 (TX4 3).2.2.1 ∈ wsX2_readPart := by decide +kernel
set_option maxHeartbeats 200000 in
set_option maxRecDepth 100000 in
theorem c_X2_readPart (l : Launch) {g : GW} {asked : Int64} {values : Nat → Int32} {bytes : Nat → Int32} {starts : Nat → Int32} {ends : Nat → Int32} {L : Nat} {parts : Int32} {texts : Nat → Int32} {lengths : Nat → Int32} {feet : Nat → Int32} {sorts : Nat → Int32} {nxt : Nat → Int32} {nv : Nat} {sums : Nat → Int32} {oneSums : Nat → Int32} {otherSums : Nat → Int32} {byFeet : Nat → Int64} {kept : Nat → Int64} {over : Int32} {rcount : Int32} {rcust : Int32} {ssums : Nat → Int32} {ways : Nat → Int64} {nextWays : Nat → Int64} {reached : Nat → Int64} {nextReached : Nat → Int64} {found : Int32} {least : Int32} {greatest : Int32} {sz : Nat} (part : Nat) (hpt : part < pn bytes L) (hnv : nv ≤ 10) (hL2 : L ≤ 40) (hrow : prow bytes L starts ends) (hle : okV lengths nv 1 8) (hso : okV sorts nv 0 2) (w : Nat → Nat) (hw : ∀ k, k < 4 → ways k = lN (w k)) (hwb : ∀ k, w k ≤ 2000000000) (hd : dW 25 g.2.2) : Met l yX2_readPart wsX2_readPart ({ frames := 2, cells := 0, slots := 0, locals := 46 }) (va_Pc ([.ref (g.2.2 19), .int (nI (part))]) (qW g (wX g asked values bytes starts ends (nI (L)) parts texts lengths feet sorts nxt (nI (nv)) sums oneSums otherSums byFeet kept over rcount rcust ssums ways nextWays reached nextReached found least greatest) sz)) (va_Qv (fun (z : (Nat → Int64) × (Nat → Int64)) => ∀ s, s < 4 → z.1 s = lN (min (rsq bytes texts lengths sorts nxt L part w s nv) 2000000000)) (fun (z : (Nat → Int64) × (Nat → Int64)) (t : State) => va_P g.1 vwCl (wX g asked values bytes starts ends (nI (L)) parts texts lengths feet sorts nxt (nI (nv)) sums oneSums otherSums byFeet kept over rcount rcust ssums (z.1) (z.2) reached nextReached found least greatest) t.heap) (aW 25 g.2.2 sz)) 0 0 (aW 25 g.2.2 sz) := by
  refine Met.ofW (cc := cX2_readPart) (maxL := 3) (ret := none) (by decide) rfl ?_
  intro p e s m args below meth c s₁ B hml hv
  obtain ⟨rfl, hsz9, hP, hK, hN⟩ := hv
  subst hsz9
  have hx := B.exec
  have hb := B.bytes
  have hr := B.returns
  have hts := atoms_spec (ws := wsX2_readPart) B.pre
  have hown : s.vm.findClass RX2 = some m.cls := findClass_of_methodNamed B.named
  have hlocks := B.notSynchronized
  have hS : va_S (aW 25 g.2.2 s.heap.size) s.heap s.heap [] := va_S.rf
  have hl := lv_entry ([.ref (g.2.2 19), .int (nI (part))]) (n := 3) (Nat.le_of_ble_eq_true rfl)
  rw [lg_entry_eq]
  generalize (lg_sl ([.ref (g.2.2 19), .int (nI (part))]) ++ List.replicate (3 - (lg_sl ([.ref (g.2.2 19), .int (nI (part))])).length) Slot.unset).toArray = ls at hl ⊢
  have hl : lv_has ls 3 [(0, .ref (g.2.2 19)), (1, .int (nI (part)))] := hl
  refine lv_aload_n hx hb dX2_readPart_0 rfl (lv_at hl 0 rfl) ?_
  refine an_get (ci := 2) (v := .ref (g.2.2 22)) (C := RX2) (T := TX2) (N := 11) hx hb hts iw_X2_readPart_X2 hown hK hP 19 rfl rfl 5 (by decide) (hts _ fl_X2_readPart_19) rfl dX2_readPart_1 ?_
  refine lv_lconst (v := (lN (0))) hx hb dX2_readPart_4 (by decide) ?_
  refine wr_callv (w := (fun (z : (Nat → Int64)) => (wX g asked values bytes starts ends (nI (L)) parts texts lengths feet sorts nxt (nI (nv)) sums oneSums otherSums byFeet kept over rcount rcust ssums ways z reached nextReached found least greatest))) (va_runS (As := [.ref (g.2.2 22), .long (lN (0))]) (rest := []) ⟨hx, hb, hml, hown, hts⟩ (c_J7_fill_nextWays l (g := g) (asked := asked) (values := values) (bytes := bytes) (starts := starts) (ends := ends) (length := nI (L)) (parts := parts) (texts := texts) (lengths := lengths) (feet := feet) (sorts := sorts) (nxt := nxt) (size := nI (nv)) (sums := sums) (oneSums := oneSums) (otherSums := otherSums) (byFeet := byFeet) (kept := kept) (over := over) (rcount := rcount) (rcust := rcust) (ssums := ssums) (ways := ways) (nextWays := nextWays) (reached := reached) (nextReached := nextReached) (found := found) (least := least) (greatest := greatest) (sz := _) (0) hd) (va_cwS 2 hts gX2_readPart_J7_fill_d0a16 rfl rfl rfl (by decide +kernel) ⟨Nat.le_of_ble_eq_true rfl, Nat.le_of_ble_eq_true rfl⟩) (pre_S qW_bl (fun U hU hW => ⟨by rw [hU], pW_of hP hK hN hU hW⟩)) rfl rfl hl.1 rfl (lv_room (Nat.le_of_ble_eq_true rfl)) dX2_readPart_5 ⟨Nat.zero_le _, Nat.zero_le _⟩) hS (fun nextWays5 H locs hp5 hP hS => ?_)
  have hP : va_P g.1 vwCl (wX g asked values bytes starts ends (nI (L)) parts texts lengths feet sorts nxt (nI (nv)) sums oneSums otherSums byFeet kept over rcount rcust ssums ways nextWays5 reached nextReached found least greatest) H := hP
  refine lv_iconst (v := (nI (0))) hx hb dX2_readPart_8 (by decide) ?_
  refine lv_istore_n (lv' := [(2, .int (nI (0))), (0, .ref (g.2.2 19)), (1, .int (nI (part)))]) hx hb dX2_readPart_9 rfl hl (by decide) rfl (fun ls hl => ?_)
  have lp_10 : ∀ (n : Nat) (i : Nat) (u : Nat → Int64), (i ≤ nv) → (∀ s, s < 4 → u s = lN (rsq bytes texts lengths sorts nxt L part w s i)) → nv - i < n → ∀ (H : Heap) (locs : List Loc), va_P g.1 vwCl (wX g asked values bytes starts ends (nI (L)) parts texts lengths feet sorts nxt (nI (nv)) sums oneSums otherSums byFeet kept over rcount rcust ssums ways u reached nextReached found least greatest) H → va_S (aW 25 g.2.2 s.heap.size) s.heap H locs → ∀ (ls : Array Slot), lv_has ls 3 [(0, .ref (g.2.2 19)), (1, .int (nI (part))), (2, .int (nI (i)))] → W p l e (headSpec wsX2_readPart ({ frames := 2, cells := 0, slots := 0, locals := 46 })).room s m (([.ref (g.2.2 19), .int (nI (part))] : List Value).toArray) below meth c H locs 0 0 (MQ below (va_Qv (fun (z : (Nat → Int64) × (Nat → Int64)) => ∀ s, s < 4 → z.1 s = lN (min (rsq bytes texts lengths sorts nxt L part w s nv) 2000000000)) (fun (z : (Nat → Int64) × (Nat → Int64)) (t : State) => va_P g.1 vwCl (wX g asked values bytes starts ends (nI (L)) parts texts lengths feet sorts nxt (nI (nv)) sums oneSums otherSums byFeet kept over rcount rcust ssums (z.1) (z.2) reached nextReached found least greatest) t.heap) (aW 25 g.2.2 s.heap.size)) (([.ref (g.2.2 19), .int (nI (part))] : List Value).toArray) s 0 0 (aW 25 g.2.2 s.heap.size)) (F0 m 10 ls []) := by
    intro n
    induction n with
    | zero => intro i u hi hu hm; exact absurd hm (Nat.not_lt_zero _)
    | succ n ih_10 =>
      intro i u hi hu hm_10 H locs hP hS ls hl
      refine lv_iload_n hx hb dX2_readPart_10 rfl (lv_at hl 2 rfl) ?_
      refine lv_aload_n hx hb dX2_readPart_11 rfl (lv_at hl 0 rfl) ?_
      refine an_get (ci := 2) (v := .ref (g.2.2 7)) (C := RX2) (T := TX2) (N := 11) hx hb hts iw_X2_readPart_X2 hown hK hP 19 rfl rfl 1 (by decide) (hts _ fl_X2_readPart_32) rfl dX2_readPart_12 ?_
      refine an_get (ci := 4) (v := .int (nI (nv))) (C := RX4) (T := TX4) (N := 6) hx hb hts iw_X2_readPart_X4 hown hK hP 7 rfl rfl 5 (by decide) (hts _ fl_X2_readPart_40) rfl dX2_readPart_15 ?_
      refine lv_icmp_ge (tgt := 65) hx hb dX2_readPart_18 (by decide) (fun c_18 => ?_) (fun c_18 => ?_)
      · have c_18 := (cv_le_nn (by omega) (by omega)).mp c_18
        have e65 : i = nv := by omega
        have hrl := fun s => rsq_le (t := bytes) (tx := texts) (le := lengths) (so := sorts) (nx := nxt) (L := L) (i := part) (s := s) hwb nv
        refine lv_iconst (v := (nI (0))) hx hb dX2_readPart_65 (by decide) ?_
        refine lv_istore_n (lv' := [(2, .int (nI (0))), (0, .ref (g.2.2 19)), (1, .int (nI (part)))]) hx hb dX2_readPart_66 rfl hl (by decide) rfl (fun ls hl => ?_)
        have lp_67 : ∀ (n : Nat) (k : Nat) (x9 : Nat → Int64), (k ≤ 4) → (∀ s, s < k → x9 s = lN (min (rsq bytes texts lengths sorts nxt L part w s nv) 2000000000)) → 4 - k < n → ∀ (H : Heap) (locs : List Loc), va_P g.1 vwCl (wX g asked values bytes starts ends (nI (L)) parts texts lengths feet sorts nxt (nI (nv)) sums oneSums otherSums byFeet kept over rcount rcust ssums x9 u reached nextReached found least greatest) H → va_S (aW 25 g.2.2 s.heap.size) s.heap H locs → ∀ (ls : Array Slot), lv_has ls 3 [(0, .ref (g.2.2 19)), (1, .int (nI (part))), (2, .int (nI (k)))] → W p l e (headSpec wsX2_readPart ({ frames := 2, cells := 0, slots := 0, locals := 46 })).room s m (([.ref (g.2.2 19), .int (nI (part))] : List Value).toArray) below meth c H locs 0 0 (MQ below (va_Qv (fun (z : (Nat → Int64) × (Nat → Int64)) => ∀ s, s < 4 → z.1 s = lN (min (rsq bytes texts lengths sorts nxt L part w s nv) 2000000000)) (fun (z : (Nat → Int64) × (Nat → Int64)) (t : State) => va_P g.1 vwCl (wX g asked values bytes starts ends (nI (L)) parts texts lengths feet sorts nxt (nI (nv)) sums oneSums otherSums byFeet kept over rcount rcust ssums (z.1) (z.2) reached nextReached found least greatest) t.heap) (aW 25 g.2.2 s.heap.size)) (([.ref (g.2.2 19), .int (nI (part))] : List Value).toArray) s 0 0 (aW 25 g.2.2 s.heap.size)) (F0 m 67 ls []) := by
          intro n
          induction n with
          | zero => intro k x9 hk hx9 hm; exact absurd hm (Nat.not_lt_zero _)
          | succ n ih_67 =>
            intro k x9 hk hx9 hm_67 H locs hP hS ls hl
            refine lv_iload_n hx hb dX2_readPart_67 rfl (lv_at hl 2 rfl) ?_
            refine lv_iconst (v := (nI (4))) hx hb dX2_readPart_68 (by decide) ?_
            refine lv_icmp_ge (tgt := 96) hx hb dX2_readPart_69 (by decide) (fun c_69 => ?_) (fun c_69 => ?_)
            · have c_69 := (cv_le_nn (by omega) (by omega)).mp c_69
              exact wr_vret (x9, u) hx hb hr hlocks (fun s h => hx9 s (by omega)) (fun t ht => show va_P g.1 vwCl (wX g asked values bytes starts ends (nI (L)) parts texts lengths feet sorts nxt (nI (nv)) sums oneSums otherSums byFeet kept over rcount rcust ssums x9 u reached nextReached found least greatest) t.heap by rw [ht]; exact hP) hS dX2_readPart_96
            · have c_69 := (not_congr (cv_le_nn (by omega) (by omega))).mp c_69
              refine lv_aload_n hx hb dX2_readPart_72 rfl (lv_at hl 0 rfl) ?_
              refine an_get (ci := 2) (v := .ref (g.2.2 21)) (C := RX2) (T := TX2) (N := 11) hx hb hts iw_X2_readPart_X2 hown hK hP 19 rfl rfl 4 (by decide) (hts _ fl_X2_readPart_15) rfl dX2_readPart_73 ?_
              refine lv_iload_n hx hb dX2_readPart_76 rfl (lv_at hl 2 rfl) ?_
              refine lv_aload_n hx hb dX2_readPart_77 rfl (lv_at hl 0 rfl) ?_
              refine an_get (ci := 2) (v := .ref (g.2.2 22)) (C := RX2) (T := TX2) (N := 11) hx hb hts iw_X2_readPart_X2 hown hK hP 19 rfl rfl 5 (by decide) (hts _ fl_X2_readPart_19) rfl dX2_readPart_78 ?_
              refine lv_iload_n hx hb dX2_readPart_81 rfl (lv_at hl 2 rfl) ?_
              have hrk := hrl k
              refine an_lald (f := u) hx hb hK hP 22 1 rfl rfl (by decide) (by omega) dX2_readPart_82 ?_
              refine ln_tol (y := (lN (rsq bytes texts lengths sorts nxt L part w k nv))) (by rw [hu k (by omega), e65]) ?_
              refine lv_ldc2 hx hb hown (hts (.constantLong RX2 65 (2000000000)) (by decide +kernel)) dX2_readPart_83 ?_
              refine ln_tol (y := lN 2000000000) (by decide) ?_
              refine va_mmin_long hx hb (by rw [hml]; exact hl.1.symm) hown (hts (.methodLink RX2 67 Lib.MathLoose.min_long.x) (by decide +kernel)) (hts (.static Lib.MathLoose.min_long.x) (by decide +kernel)) (hts (.initialized "java/lang/Math") (by decide +kernel)) (hts (.code Lib.MathLoose.min_long.x Lib.MathLoose.min_long.code 4 (some .long)) (by decide +kernel)) (Nat.le_of_ble_eq_true rfl) (Nat.le_of_ble_eq_true rfl) (Nat.zero_le _) (Nat.zero_le _) dX2_readPart_86 ?_
              refine ln_tol (y := (lN (min (rsq bytes texts lengths sorts nxt L part w k nv) 2000000000))) (mn_l (by omega) (by decide)) ?_
              refine an_last (f := x9) (ws' := (wX g asked values bytes starts ends (nI (L)) parts texts lengths feet sorts nxt (nI (nv)) sums oneSums otherSums byFeet kept over rcount rcust ssums (vp_updL (x9) (k) (lN (min (rsq bytes texts lengths sorts nxt L part w k nv) 2000000000))) u reached nextReached found least greatest)) hx hb hK hP (wX_D hd) hS 21 1 rfl rfl (by decide) (by omega) rfl dX2_readPart_89 (fun H locs hP hS => ?_)
              refine lv_iinc (v := (nI (k + 1))) (lv' := [(2, .int (nI (k + 1))), (0, .ref (g.2.2 19)), (1, .int (nI (part)))]) hx hb dX2_readPart_90 hl (k := 2) rfl (nI_add _ 1) (by decide) rfl (fun ls hl => ?_)
              refine lv_goto (tgt := 67) hx hb dX2_readPart_93 (by decide) ?_
              exact ih_67 (k + 1) (vp_updL x9 k (lN (min (rsq bytes texts lengths sorts nxt L part w k nv) 2000000000))) (by omega) (fun s h => by by_cases e : s = k; (rw [e]; exact pk_uLs); (rw [pk_uLn e]; exact hx9 s (by omega))) (by omega) _ _ hP hS ls (lv_sub hl [1, 2, 0] rfl)
        exact lp_67 (4 - (0) + 1) 0 ways (Nat.zero_le _) (fun s h => absurd h (Nat.not_lt_zero s)) (Nat.lt_succ_self _) _ _ hP hS ls (lv_sub hl [1, 2, 0] rfl)
      · have c_18 := (not_congr (cv_le_nn (by omega) (by omega))).mp c_18
        refine lv_aload_n hx hb dX2_readPart_21 rfl (lv_at hl 0 rfl) ?_
        refine an_get (ci := 2) (v := .ref (g.2.2 7)) (C := RX2) (T := TX2) (N := 11) hx hb hts iw_X2_readPart_X2 hown hK hP 19 rfl rfl 1 (by decide) (hts _ fl_X2_readPart_32) rfl dX2_readPart_22 ?_
        refine lv_iload_n hx hb dX2_readPart_25 rfl (lv_at hl 2 rfl) ?_
        refine lv_aload_n hx hb dX2_readPart_26 rfl (lv_at hl 0 rfl) ?_
        refine an_get (ci := 2) (v := .ref (g.2.2 3)) (C := RX2) (T := TX2) (N := 11) hx hb hts iw_X2_readPart_X2 hown hK hP 19 rfl rfl 0 (by decide) (hts _ fl_X2_readPart_28) rfl dX2_readPart_27 ?_
        refine lv_iload_n hx hb dX2_readPart_30 rfl (lv_at hl 1 rfl) ?_
        refine ro_call (va_runV (As := [.int (nI (i)), .ref (g.2.2 3), .int (nI (part))]) (rest := []) ⟨hx, hb, hml, hown, hts⟩ (c_X4_fitsPart l (g := g) (asked := asked) (values := values) (bytes := bytes) (starts := starts) (ends := ends) (L := L) (parts := parts) (texts := texts) (lengths := lengths) (feet := feet) (sorts := sorts) (nxt := nxt) (size := nI (nv)) (sums := sums) (oneSums := oneSums) (otherSums := otherSums) (byFeet := byFeet) (kept := kept) (over := over) (rcount := rcount) (rcust := rcust) (ssums := ssums) (ways := ways) (nextWays := u) (reached := reached) (nextReached := nextReached) (found := found) (least := least) (greatest := greatest) (i) (part) nv hnv (by omega) hL2 hpt hrow hle) (cwV 3 hts gX2_readPart_X4_fitsPart rfl rfl rfl (by decide +kernel) ⟨Nat.le_of_ble_eq_true rfl, Nat.le_of_ble_eq_true rfl⟩) (pre_V pW_bl (va_recv hK hP (ci := 4) (q0 := 7) rfl rfl) (fun U hU hW => pW_of hP hK hN hU hW)) rfl rfl hl.1 rfl (lv_room (Nat.le_of_ble_eq_true rfl)) dX2_readPart_31 ⟨Nat.zero_le _, Nat.zero_le _⟩) ?_
        refine lv_if_eq (tgt := 59) hx hb dX2_readPart_34 (by decide) (fun c_34 => ?_) (fun c_34 => ?_)
        · have c_34 := if_n c_34
          refine lv_iinc (v := (nI (i + 1))) (lv' := [(2, .int (nI (i + 1))), (0, .ref (g.2.2 19)), (1, .int (nI (part)))]) hx hb dX2_readPart_59 hl (k := 2) rfl (nI_add _ 1) (by decide) rfl (fun ls hl => ?_)
          refine lv_goto (tgt := 10) hx hb dX2_readPart_62 (by decide) ?_
          exact ih_10 (i + 1) u (by omega) (fun s h => by rw [hu s h, rsq_n (fun q => c_34 q.1)]) (by omega) _ _ hP hS ls (lv_sub hl [1, 2, 0] rfl)
        · have c_34 := if_p c_34
          refine lv_aload_n hx hb dX2_readPart_37 rfl (lv_at hl 0 rfl) ?_
          refine an_get (ci := 2) (v := .ref (g.2.2 22)) (C := RX2) (T := TX2) (N := 11) hx hb hts iw_X2_readPart_X2 hown hK hP 19 rfl rfl 5 (by decide) (hts _ fl_X2_readPart_19) rfl dX2_readPart_38 ?_
          refine lv_aload_n hx hb dX2_readPart_41 rfl (lv_at hl 0 rfl) ?_
          refine an_get (ci := 2) (v := .ref (g.2.2 7)) (C := RX2) (T := TX2) (N := 11) hx hb hts iw_X2_readPart_X2 hown hK hP 19 rfl rfl 1 (by decide) (hts _ fl_X2_readPart_32) rfl dX2_readPart_42 ?_
          refine an_get (ci := 4) (v := .ref (g.2.2 11)) (C := RX4) (T := TX4) (N := 6) hx hb hts iw_X2_readPart_X4 hown hK hP 7 rfl rfl 3 (by decide) (hts _ fl_X2_readPart_73) rfl dX2_readPart_45 ?_
          refine lv_iload_n hx hb dX2_readPart_48 rfl (lv_at hl 2 rfl) ?_
          have hs9 := hso i (by omega)
          refine an_iald (f := sorts) hx hb hK hP 11 0 rfl rfl (by decide) (by omega) dX2_readPart_49 ?_
          refine ln_toi (y := (nI (tn (sorts i)))) (hs9.1) ?_
          refine lv_dup2_11 hx hb dX2_readPart_50 rfl rfl ?_
          refine an_lald (f := u) hx hb hK hP 22 1 rfl rfl (by decide) (by omega) dX2_readPart_51 ?_
          refine ln_tol (y := (lN (rsq bytes texts lengths sorts nxt L part w (tn (sorts i)) i))) (hu _ (by omega)) ?_
          refine lv_aload_n hx hb dX2_readPart_52 rfl (lv_at hl 0 rfl) ?_
          refine lv_iload_n hx hb dX2_readPart_53 rfl (lv_at hl 2 rfl) ?_
          refine ro_call (va_runV (As := [.int (nI (i))]) (rest := [.long (lN (rsq bytes texts lengths sorts nxt L part w (tn (sorts i)) i)), .int (nI (tn (sorts i))), .ref (g.2.2 22)]) ⟨hx, hb, hml, hown, hts⟩ (c_X2_waysTo l (g := g) (asked := asked) (values := values) (bytes := bytes) (starts := starts) (ends := ends) (length := nI (L)) (parts := parts) (texts := texts) (lengths := lengths) (feet := feet) (sorts := sorts) (nxt := nxt) (size := nI (nv)) (sums := sums) (oneSums := oneSums) (otherSums := otherSums) (byFeet := byFeet) (kept := kept) (over := over) (rcount := rcount) (rcust := rcust) (ssums := ssums) (ways := ways) (nextWays := u) (reached := reached) (nextReached := nextReached) (found := found) (least := least) (greatest := greatest) (i) w hw (by omega)) (cwV 1 hts gX2_readPart_X2_waysTo rfl rfl rfl (by decide +kernel) ⟨Nat.le_of_ble_eq_true rfl, Nat.le_of_ble_eq_true rfl⟩) (pre_V pW_bl (va_recv hK hP (ci := 2) (q0 := 19) rfl rfl) (fun U hU hW => pW_of hP hK hN hU hW)) rfl rfl hl.1 rfl (lv_room (Nat.le_of_ble_eq_true rfl)) dX2_readPart_54 ⟨Nat.zero_le _, Nat.zero_le _⟩) ?_
          refine ln_ladd hx hb dX2_readPart_57 ?_
          refine ln_tol (y := (lN (rsq bytes texts lengths sorts nxt L part w (tn (sorts i)) (i + 1)))) (congrArg lN (rsq_y c_34)) ?_
          refine an_last (f := u) (ws' := (wX g asked values bytes starts ends (nI (L)) parts texts lengths feet sorts nxt (nI (nv)) sums oneSums otherSums byFeet kept over rcount rcust ssums ways (vp_updL (u) (tn (sorts i)) (lN (rsq bytes texts lengths sorts nxt L part w (tn (sorts i)) (i + 1)))) reached nextReached found least greatest)) hx hb hK hP (wX_D hd) hS 22 1 rfl rfl (by decide) (by omega) rfl dX2_readPart_58 (fun H locs hP hS => ?_)
          refine lv_iinc (v := (nI (i + 1))) (lv' := [(2, .int (nI (i + 1))), (0, .ref (g.2.2 19)), (1, .int (nI (part)))]) hx hb dX2_readPart_59 hl (k := 2) rfl (nI_add _ 1) (by decide) rfl (fun ls hl => ?_)
          refine lv_goto (tgt := 10) hx hb dX2_readPart_62 (by decide) ?_
          exact ih_10 (i + 1) (vp_updL u (tn (sorts i)) (lN (rsq bytes texts lengths sorts nxt L part w (tn (sorts i)) (i + 1)))) (by omega) (fun s h => by by_cases e : s = tn (sorts i); (rw [e]; exact pk_uLs); (rw [pk_uLn e, hu s h, rsq_n (fun q => e q.2.symm)])) (by omega) _ _ hP hS ls (lv_sub hl [1, 2, 0] rfl)
  exact lp_10 (nv - (0) + 1) 0 nextWays5 (Nat.zero_le _) (fun s h => hp5 s h) (Nat.lt_succ_self _) _ _ hP hS ls (lv_sub hl [1, 2, 0] rfl)
theorem iw_X2_howManyReadings_X1 : ∀ w ∈ u_ws RX1 TX1 5, w ∈ wsX2_howManyReadings := by decide +kernel
theorem iw_X2_howManyReadings_X2 : ∀ w ∈ u_ws RX2 TX2 11, w ∈ wsX2_howManyReadings := by decide +kernel
theorem fl_X2_howManyReadings_15 : Cond.fieldLink RX2 15 (TX2 4).1 (TX2 4).2.1 (TX2 4).2.2.1 ∈ wsX2_howManyReadings := by decide +kernel
theorem fl_X2_howManyReadings_28 : Cond.fieldLink RX2 28 (TX2 0).1 (TX2 0).2.1 (TX2 0).2.2.1 ∈ wsX2_howManyReadings := by decide +kernel
theorem fl_X2_howManyReadings_56 : Cond.fieldLink RX2 56 (TX1 4).1 (TX1 4).2.1 (TX1 4).2.2.1 ∈ wsX2_howManyReadings := by decide +kernel
set_option maxHeartbeats 200000 in
set_option maxRecDepth 100000 in
theorem c_X2_howManyReadings (l : Launch) {g : GW} {asked : Int64} {values : Nat → Int32} {bytes : Nat → Int32} {starts : Nat → Int32} {ends : Nat → Int32} {L : Nat} {pt : Nat} {texts : Nat → Int32} {lengths : Nat → Int32} {feet : Nat → Int32} {sorts : Nat → Int32} {nxt : Nat → Int32} {nv : Nat} {sums : Nat → Int32} {oneSums : Nat → Int32} {otherSums : Nat → Int32} {byFeet : Nat → Int64} {kept : Nat → Int64} {over : Int32} {rcount : Int32} {rcust : Int32} {ssums : Nat → Int32} {ways : Nat → Int64} {nextWays : Nat → Int64} {reached : Nat → Int64} {nextReached : Nat → Int64} {found : Int32} {least : Int32} {greatest : Int32} {sz : Nat} (hpt : pt = pn bytes L) (hnv : nv ≤ 10) (hL2 : L ≤ 40) (hrow : prow bytes L starts ends) (hle : okV lengths nv 1 8) (hso : okV sorts nv 0 2) (hd : dW 25 g.2.2) : Met l yX2_howManyReadings wsX2_howManyReadings ({ frames := 3, cells := 0, slots := 0, locals := 68 }) (va_Pc ([.ref (g.2.2 19)]) (qW g (wX g asked values bytes starts ends (nI (L)) (nI (pt)) texts lengths feet sorts nxt (nI (nv)) sums oneSums otherSums byFeet kept over rcount rcust ssums ways nextWays reached nextReached found least greatest) sz)) (va_Qi (fun (r : Int32) (z : (Nat → Int64) × (Nat → Int64)) => r = nI (min (sm4 (rdw bytes texts lengths sorts nxt L nv (pn bytes L)) 4) 2000000000)) (fun (z : (Nat → Int64) × (Nat → Int64)) (t : State) => va_P g.1 vwCl (wX g asked values bytes starts ends (nI (L)) (nI (pt)) texts lengths feet sorts nxt (nI (nv)) sums oneSums otherSums byFeet kept over rcount rcust ssums (z.1) (z.2) reached nextReached found least greatest) t.heap) (aW 25 g.2.2 sz)) 0 0 (aW 25 g.2.2 sz) := by
  refine Met.ofW (cc := cX2_howManyReadings) (maxL := 8) (ret := (some .int)) (by decide) rfl ?_
  intro p e s m args below meth c s₁ B hml hv
  obtain ⟨rfl, hsz9, hP, hK, hN⟩ := hv
  subst hsz9
  have hx := B.exec
  have hb := B.bytes
  have hr := B.returns
  have hts := atoms_spec (ws := wsX2_howManyReadings) B.pre
  have hown : s.vm.findClass RX2 = some m.cls := findClass_of_methodNamed B.named
  have hlocks := B.notSynchronized
  have hS : va_S (aW 25 g.2.2 s.heap.size) s.heap s.heap [] := va_S.rf
  have hl := lv_entry ([.ref (g.2.2 19)]) (n := 8) (Nat.le_of_ble_eq_true rfl)
  rw [lg_entry_eq]
  generalize (lg_sl ([.ref (g.2.2 19)]) ++ List.replicate (8 - (lg_sl ([.ref (g.2.2 19)])).length) Slot.unset).toArray = ls at hl ⊢
  have hl : lv_has ls 8 [(0, .ref (g.2.2 19))] := hl
  have hp20 := pn_room bytes L
  have hrb := rdw_le bytes texts lengths sorts nxt L nv
  refine lv_aload_n hx hb dX2_howManyReadings_0 rfl (lv_at hl 0 rfl) ?_
  refine an_get (ci := 2) (v := .ref (g.2.2 21)) (C := RX2) (T := TX2) (N := 11) hx hb hts iw_X2_howManyReadings_X2 hown hK hP 19 rfl rfl 4 (by decide) (hts _ fl_X2_howManyReadings_15) rfl dX2_howManyReadings_1 ?_
  refine lv_lconst (v := (lN (0))) hx hb dX2_howManyReadings_4 (by decide) ?_
  refine wr_callv (w := (fun (z : (Nat → Int64)) => (wX g asked values bytes starts ends (nI (L)) (nI (pt)) texts lengths feet sorts nxt (nI (nv)) sums oneSums otherSums byFeet kept over rcount rcust ssums z nextWays reached nextReached found least greatest))) (va_runS (As := [.ref (g.2.2 21), .long (lN (0))]) (rest := []) ⟨hx, hb, hml, hown, hts⟩ (c_J7_fill_ways l (g := g) (asked := asked) (values := values) (bytes := bytes) (starts := starts) (ends := ends) (length := nI (L)) (parts := nI (pt)) (texts := texts) (lengths := lengths) (feet := feet) (sorts := sorts) (nxt := nxt) (size := nI (nv)) (sums := sums) (oneSums := oneSums) (otherSums := otherSums) (byFeet := byFeet) (kept := kept) (over := over) (rcount := rcount) (rcust := rcust) (ssums := ssums) (ways := ways) (nextWays := nextWays) (reached := reached) (nextReached := nextReached) (found := found) (least := least) (greatest := greatest) (sz := _) (0) hd) (va_cwS 2 hts gX2_howManyReadings_J7_fill_d0a16 rfl rfl rfl (by decide +kernel) ⟨Nat.le_of_ble_eq_true rfl, Nat.le_of_ble_eq_true rfl⟩) (pre_S qW_bl (fun U hU hW => ⟨by rw [hU], pW_of hP hK hN hU hW⟩)) rfl rfl hl.1 rfl (lv_room (Nat.le_of_ble_eq_true rfl)) dX2_howManyReadings_5 ⟨Nat.zero_le _, Nat.zero_le _⟩) hS (fun ways5 H locs hp5 hP hS => ?_)
  have hP : va_P g.1 vwCl (wX g asked values bytes starts ends (nI (L)) (nI (pt)) texts lengths feet sorts nxt (nI (nv)) sums oneSums otherSums byFeet kept over rcount rcust ssums ways5 nextWays reached nextReached found least greatest) H := hP
  refine lv_aload_n hx hb dX2_howManyReadings_8 rfl (lv_at hl 0 rfl) ?_
  refine an_get (ci := 2) (v := .ref (g.2.2 21)) (C := RX2) (T := TX2) (N := 11) hx hb hts iw_X2_howManyReadings_X2 hown hK hP 19 rfl rfl 4 (by decide) (hts _ fl_X2_howManyReadings_15) rfl dX2_howManyReadings_9 ?_
  refine lv_iconst (v := (nI (3))) hx hb dX2_howManyReadings_12 (by decide) ?_
  refine lv_lconst (v := (lN (1))) hx hb dX2_howManyReadings_13 (by decide) ?_
  refine an_last (f := ways5) (ws' := (wX g asked values bytes starts ends (nI (L)) (nI (pt)) texts lengths feet sorts nxt (nI (nv)) sums oneSums otherSums byFeet kept over rcount rcust ssums (vp_updL (ways5) (3) (lN (1))) nextWays reached nextReached found least greatest)) hx hb hK hP (wX_D hd) hS 21 1 rfl rfl (by decide) (by omega) rfl dX2_howManyReadings_14 (fun H locs hP hS => ?_)
  refine lv_iconst (v := (nI (0))) hx hb dX2_howManyReadings_15 (by decide) ?_
  refine lv_istore_n (lv' := [(1, .int (nI (0))), (0, .ref (g.2.2 19))]) hx hb dX2_howManyReadings_16 rfl hl (by decide) rfl (fun ls hl => ?_)
  have lp_17 : ∀ (n : Nat) (i : Nat) (u : Nat → Int64) (u2 : Nat → Int64), (i ≤ pt) → (∀ s, s < 4 → u s = lN (rdw bytes texts lengths sorts nxt L nv i s)) → pt - i < n → ∀ (H : Heap) (locs : List Loc), va_P g.1 vwCl (wX g asked values bytes starts ends (nI (L)) (nI (pt)) texts lengths feet sorts nxt (nI (nv)) sums oneSums otherSums byFeet kept over rcount rcust ssums u u2 reached nextReached found least greatest) H → va_S (aW 25 g.2.2 s.heap.size) s.heap H locs → ∀ (ls : Array Slot), lv_has ls 8 [(0, .ref (g.2.2 19)), (1, .int (nI (i)))] → W p l e (headSpec wsX2_howManyReadings ({ frames := 3, cells := 0, slots := 0, locals := 68 })).room s m (([.ref (g.2.2 19)] : List Value).toArray) below meth c H locs 0 0 (MQ below (va_Qi (fun (r : Int32) (z : (Nat → Int64) × (Nat → Int64)) => r = nI (min (sm4 (rdw bytes texts lengths sorts nxt L nv (pn bytes L)) 4) 2000000000)) (fun (z : (Nat → Int64) × (Nat → Int64)) (t : State) => va_P g.1 vwCl (wX g asked values bytes starts ends (nI (L)) (nI (pt)) texts lengths feet sorts nxt (nI (nv)) sums oneSums otherSums byFeet kept over rcount rcust ssums (z.1) (z.2) reached nextReached found least greatest) t.heap) (aW 25 g.2.2 s.heap.size)) (([.ref (g.2.2 19)] : List Value).toArray) s 0 0 (aW 25 g.2.2 s.heap.size)) (F0 m 17 ls []) := by
    intro n
    induction n with
    | zero => intro i u u2 hi hu hm; exact absurd hm (Nat.not_lt_zero _)
    | succ n ih_17 =>
      intro i u u2 hi hu hm_17 H locs hP hS ls hl
      refine lv_iload_n hx hb dX2_howManyReadings_17 rfl (lv_at hl 1 rfl) ?_
      refine lv_aload_n hx hb dX2_howManyReadings_18 rfl (lv_at hl 0 rfl) ?_
      refine an_get (ci := 2) (v := .ref (g.2.2 3)) (C := RX2) (T := TX2) (N := 11) hx hb hts iw_X2_howManyReadings_X2 hown hK hP 19 rfl rfl 0 (by decide) (hts _ fl_X2_howManyReadings_28) rfl dX2_howManyReadings_19 ?_
      refine an_get (ci := 1) (v := .int (nI (pt))) (C := RX1) (T := TX1) (N := 5) hx hb hts iw_X2_howManyReadings_X1 hown hK hP 3 rfl rfl 4 (by decide) (hts _ fl_X2_howManyReadings_56) rfl dX2_howManyReadings_22 ?_
      refine lv_icmp_ge (tgt := 39) hx hb dX2_howManyReadings_25 (by decide) (fun c_25 => ?_) (fun c_25 => ?_)
      · have c_25 := (cv_le_nn (by omega) (by omega)).mp c_25
        refine lv_lconst (v := (lN (0))) hx hb dX2_howManyReadings_39 (by decide) ?_
        refine lv_lstore_n (lv' := [(1, .long (lN (0))), (0, .ref (g.2.2 19))]) hx hb dX2_howManyReadings_40 rfl hl (by decide) rfl (fun ls hl => ?_)
        refine lv_aload_n hx hb dX2_howManyReadings_41 rfl (lv_at hl 1 rfl) ?_
        refine an_get (ci := 2) (v := .ref (g.2.2 21)) (C := RX2) (T := TX2) (N := 11) hx hb hts iw_X2_howManyReadings_X2 hown hK hP 19 rfl rfl 4 (by decide) (hts _ fl_X2_howManyReadings_15) rfl dX2_howManyReadings_42 ?_
        refine lv_astore_n (lv' := [(3, .ref (g.2.2 21)), (1, .long (lN (0))), (0, .ref (g.2.2 19))]) hx hb dX2_howManyReadings_45 rfl hl (by decide) rfl (fun ls hl => ?_)
        refine lv_aload_n hx hb dX2_howManyReadings_46 rfl (lv_at hl 0 rfl) ?_
        refine va_alen (v := nI 4) hx hb hK hP 21 1 rfl rfl rfl dX2_howManyReadings_47 ?_
        refine lv_istore (lv' := [(4, .int (nI (4))), (3, .ref (g.2.2 21)), (1, .long (lN (0))), (0, .ref (g.2.2 19))]) hx hb dX2_howManyReadings_48 hl (by decide) rfl (fun ls hl => ?_)
        refine lv_iconst (v := (nI (0))) hx hb dX2_howManyReadings_50 (by decide) ?_
        refine lv_istore (lv' := [(5, .int (nI (0))), (4, .int (nI (4))), (3, .ref (g.2.2 21)), (1, .long (lN (0))), (0, .ref (g.2.2 19))]) hx hb dX2_howManyReadings_51 hl (by decide) rfl (fun ls hl => ?_)
        have lp_53 : ∀ (n : Nat) (j : Nat), (j ≤ 4) → 4 - j < n → ∀ (H : Heap) (locs : List Loc), va_P g.1 vwCl (wX g asked values bytes starts ends (nI (L)) (nI (pt)) texts lengths feet sorts nxt (nI (nv)) sums oneSums otherSums byFeet kept over rcount rcust ssums u u2 reached nextReached found least greatest) H → va_S (aW 25 g.2.2 s.heap.size) s.heap H locs → ∀ (ls : Array Slot), lv_has ls 8 [(0, .ref (g.2.2 19)), (1, .long (lN (sm4 (rdw bytes texts lengths sorts nxt L nv i) j))), (3, .ref (g.2.2 21)), (4, .int (nI (4))), (5, .int (nI (j)))] → W p l e (headSpec wsX2_howManyReadings ({ frames := 3, cells := 0, slots := 0, locals := 68 })).room s m (([.ref (g.2.2 19)] : List Value).toArray) below meth c H locs 0 0 (MQ below (va_Qi (fun (r : Int32) (z : (Nat → Int64) × (Nat → Int64)) => r = nI (min (sm4 (rdw bytes texts lengths sorts nxt L nv (pn bytes L)) 4) 2000000000)) (fun (z : (Nat → Int64) × (Nat → Int64)) (t : State) => va_P g.1 vwCl (wX g asked values bytes starts ends (nI (L)) (nI (pt)) texts lengths feet sorts nxt (nI (nv)) sums oneSums otherSums byFeet kept over rcount rcust ssums (z.1) (z.2) reached nextReached found least greatest) t.heap) (aW 25 g.2.2 s.heap.size)) (([.ref (g.2.2 19)] : List Value).toArray) s 0 0 (aW 25 g.2.2 s.heap.size)) (F0 m 53 ls []) := by
          intro n
          induction n with
          | zero => intro j hj hm; exact absurd hm (Nat.not_lt_zero _)
          | succ n ih_53 =>
            intro j hj hm_53 H locs hP hS ls hl
            refine lv_iload hx hb dX2_howManyReadings_53 (lv_at hl 4 rfl) ?_
            refine lv_iload hx hb dX2_howManyReadings_55 (lv_at hl 3 rfl) ?_
            refine lv_icmp_ge (tgt := 77) hx hb dX2_howManyReadings_57 (by decide) (fun c_57 => ?_) (fun c_57 => ?_)
            · have c_57 := (cv_le_nn (by omega) (by omega)).mp c_57
              have hsm := sm4_le (hrb i) j
              refine lv_lload_n hx hb dX2_howManyReadings_77 rfl (lv_at hl 1 rfl) ?_
              refine lv_ldc2 hx hb hown (hts (.constantLong RX2 65 (2000000000)) (by decide +kernel)) dX2_howManyReadings_78 ?_
              refine ln_tol (y := lN 2000000000) (by decide) ?_
              refine va_mmin_long hx hb (by rw [hml]; exact hl.1.symm) hown (hts (.methodLink RX2 67 Lib.MathLoose.min_long.x) (by decide +kernel)) (hts (.static Lib.MathLoose.min_long.x) (by decide +kernel)) (hts (.initialized "java/lang/Math") (by decide +kernel)) (hts (.code Lib.MathLoose.min_long.x Lib.MathLoose.min_long.code 4 (some .long)) (by decide +kernel)) (Nat.le_of_ble_eq_true rfl) (Nat.le_of_ble_eq_true rfl) (Nat.zero_le _) (Nat.zero_le _) dX2_howManyReadings_81 ?_
              refine ln_tol (y := (lN (min (sm4 (rdw bytes texts lengths sorts nxt L nv i) j) 2000000000))) (mn_l (by omega) (by decide)) ?_
              refine lv_l2i (v := nI (min (sm4 (rdw bytes texts lengths sorts nxt L nv i) j) 2000000000)) hx hb dX2_howManyReadings_84 (lN_i _) ?_
              exact wr_iret (u, u2) hx hb hr hlocks (by rw [show pn bytes L = i by omega, show 4 = j by omega]) (fun t ht => show va_P g.1 vwCl (wX g asked values bytes starts ends (nI (L)) (nI (pt)) texts lengths feet sorts nxt (nI (nv)) sums oneSums otherSums byFeet kept over rcount rcust ssums u u2 reached nextReached found least greatest) t.heap by rw [ht]; exact hP) hS dX2_howManyReadings_85
            · have c_57 := (not_congr (cv_le_nn (by omega) (by omega))).mp c_57
              refine lv_aload_n hx hb dX2_howManyReadings_60 rfl (lv_at hl 2 rfl) ?_
              refine lv_iload hx hb dX2_howManyReadings_61 (lv_at hl 4 rfl) ?_
              refine an_lald (f := u) hx hb hK hP 21 1 rfl rfl (by decide) (by omega) dX2_howManyReadings_63 ?_
              refine ln_tol (y := (lN (rdw bytes texts lengths sorts nxt L nv i j))) (hu j (by omega)) ?_
              refine lv_lstore (lv' := [(6, .long (lN (rdw bytes texts lengths sorts nxt L nv i j))), (0, .ref (g.2.2 19)), (1, .long (lN (sm4 (rdw bytes texts lengths sorts nxt L nv i) j))), (3, .ref (g.2.2 21)), (4, .int (nI (4))), (5, .int (nI (j)))]) hx hb dX2_howManyReadings_64 hl (by decide) rfl (fun ls hl => ?_)
              refine lv_lload_n hx hb dX2_howManyReadings_66 rfl (lv_at hl 2 rfl) ?_
              refine lv_lload hx hb dX2_howManyReadings_67 (lv_at hl 0 rfl) ?_
              refine ln_ladd hx hb dX2_howManyReadings_69 ?_
              refine ln_tol (y := (lN (sm4 (rdw bytes texts lengths sorts nxt L nv i) (j + 1)))) (rfl) ?_
              refine lv_lstore_n (lv' := [(1, .long (lN (sm4 (rdw bytes texts lengths sorts nxt L nv i) (j + 1)))), (6, .long (lN (rdw bytes texts lengths sorts nxt L nv i j))), (0, .ref (g.2.2 19)), (3, .ref (g.2.2 21)), (4, .int (nI (4))), (5, .int (nI (j)))]) hx hb dX2_howManyReadings_70 rfl hl (by decide) rfl (fun ls hl => ?_)
              refine lv_iinc (v := (nI (j + 1))) (lv' := [(5, .int (nI (j + 1))), (1, .long (lN (sm4 (rdw bytes texts lengths sorts nxt L nv i) (j + 1)))), (6, .long (lN (rdw bytes texts lengths sorts nxt L nv i j))), (0, .ref (g.2.2 19)), (3, .ref (g.2.2 21)), (4, .int (nI (4)))]) hx hb dX2_howManyReadings_71 hl (k := 5) rfl (nI_add _ 1) (by decide) rfl (fun ls hl => ?_)
              refine lv_goto (tgt := 53) hx hb dX2_howManyReadings_74 (by decide) ?_
              exact ih_53 (j + 1) (by omega) (by omega) _ _ hP hS ls (lv_sub hl [3, 1, 4, 5, 0] rfl)
        exact lp_53 (4 - (0) + 1) 0 (Nat.zero_le _) (Nat.lt_succ_self _) _ _ hP hS ls (lv_sub hl [4, 3, 2, 1, 0] rfl)
      · have c_25 := (not_congr (cv_le_nn (by omega) (by omega))).mp c_25
        refine lv_aload_n hx hb dX2_howManyReadings_28 rfl (lv_at hl 0 rfl) ?_
        refine lv_iload_n hx hb dX2_howManyReadings_29 rfl (lv_at hl 1 rfl) ?_
        refine wr_callv (w := (fun (z : (Nat → Int64) × (Nat → Int64)) => (wX g asked values bytes starts ends (nI (L)) (nI (pt)) texts lengths feet sorts nxt (nI (nv)) sums oneSums otherSums byFeet kept over rcount rcust ssums (z.1) (z.2) reached nextReached found least greatest))) (va_runV (As := [.int (nI (i))]) (rest := []) ⟨hx, hb, hml, hown, hts⟩ (c_X2_readPart l (g := g) (asked := asked) (values := values) (bytes := bytes) (starts := starts) (ends := ends) (L := L) (parts := nI (pt)) (texts := texts) (lengths := lengths) (feet := feet) (sorts := sorts) (nxt := nxt) (nv := nv) (sums := sums) (oneSums := oneSums) (otherSums := otherSums) (byFeet := byFeet) (kept := kept) (over := over) (rcount := rcount) (rcust := rcust) (ssums := ssums) (ways := u) (nextWays := u2) (reached := reached) (nextReached := nextReached) (found := found) (least := least) (greatest := greatest) (sz := _) (i) (by omega) hnv hL2 hrow hle hso (rdw bytes texts lengths sorts nxt L nv i) hu (hrb i) hd) (cwV 1 hts gX2_howManyReadings_X2_readPart rfl rfl rfl (by decide +kernel) ⟨Nat.le_of_ble_eq_true rfl, Nat.le_of_ble_eq_true rfl⟩) (pre_V qW_bl (va_recv hK hP (ci := 2) (q0 := 19) rfl rfl) (fun U hU hW => ⟨by rw [hU], pW_of hP hK hN hU hW⟩)) rfl rfl hl.1 rfl (lv_room (Nat.le_of_ble_eq_true rfl)) dX2_howManyReadings_30 ⟨Nat.zero_le _, Nat.zero_le _⟩) hS (fun z30 H locs hp30 hP hS => ?_)
        obtain ⟨ways30, nextWays30⟩ := z30
        try dsimp only at hp30
        have hP : va_P g.1 vwCl (wX g asked values bytes starts ends (nI (L)) (nI (pt)) texts lengths feet sorts nxt (nI (nv)) sums oneSums otherSums byFeet kept over rcount rcust ssums ways30 nextWays30 reached nextReached found least greatest) H := hP
        refine lv_iinc (v := (nI (i + 1))) (lv' := [(1, .int (nI (i + 1))), (0, .ref (g.2.2 19))]) hx hb dX2_howManyReadings_33 hl (k := 1) rfl (nI_add _ 1) (by decide) rfl (fun ls hl => ?_)
        refine lv_goto (tgt := 17) hx hb dX2_howManyReadings_36 (by decide) ?_
        exact ih_17 (i + 1) ways30 nextWays30 (by omega) (hp30) (by omega) _ _ hP hS ls (lv_sub hl [1, 0] rfl)
  exact lp_17 (pt - (0) + 1) 0 (vp_updL ways5 3 (lN 1)) nextWays (Nat.zero_le _) (fun s h => by by_cases e : s = 3; (rw [e, pk_uLs]; rfl); (rw [pk_uLn e, hp5 s h]; show _ = lN (if s = 3 then 1 else 0); rw [if_neg e])) (Nat.lt_succ_self _) _ _ hP hS ls (lv_sub hl [1, 0] rfl)
theorem iw_X5_readings_X1 : ∀ w ∈ u_ws RX1 TX1 5, w ∈ wsX5_readings := by decide +kernel
theorem iw_X5_readings_X5 : ∀ w ∈ u_ws RX5 TX5 6, w ∈ wsX5_readings := by decide +kernel
theorem fl_X5_readings_19 : Cond.fieldLink RX5 19 (TX5 1).1 (TX5 1).2.1 (TX5 1).2.2.1 ∈ wsX5_readings := by decide +kernel
theorem fl_X5_readings_44 : Cond.fieldLink RX5 44 (TX5 4).1 (TX5 4).2.1 (TX5 4).2.2.1 ∈ wsX5_readings := by decide +kernel
theorem fl_X5_readings_145 : Cond.fieldLink RX5 145 (TX1 4).1 (TX1 4).2.1 (TX1 4).2.2.1 ∈ wsX5_readings := by decide +kernel
set_option maxHeartbeats 200000 in
set_option maxRecDepth 100000 in
theorem c_X5_readings (l : Launch) {g : GW} {asked : Int64} {values : Nat → Int32} {bytes : Nat → Int32} {starts : Nat → Int32} {ends : Nat → Int32} {L : Nat} {pt : Nat} {texts : Nat → Int32} {lengths : Nat → Int32} {feet : Nat → Int32} {sorts : Nat → Int32} {nxt : Nat → Int32} {nv : Nat} {sums : Nat → Int32} {oneSums : Nat → Int32} {otherSums : Nat → Int32} {byFeet : Nat → Int64} {kept : Nat → Int64} {over : Int32} {rcount : Int32} {rcust : Int32} {ssums : Nat → Int32} {ways : Nat → Int64} {nextWays : Nat → Int64} {reached : Nat → Int64} {nextReached : Nat → Int64} {found : Int32} {least : Int32} {greatest : Int32} {sz : Nat} (hpt : pt = pn bytes L) (hnv : nv ≤ 10) (hL2 : L ≤ 40) (hrow : prow bytes L starts ends) (hle : okV lengths nv 1 8) (hso : okV sorts nv 0 2) (hd : dW 25 g.2.2) : Met l yX5_readings wsX5_readings ({ frames := 4, cells := 0, slots := 0, locals := 95 }) (va_Pc ([.ref (g.2.2 0)]) (qW g (wX g asked values bytes starts ends (nI (L)) (nI (pt)) texts lengths feet sorts nxt (nI (nv)) sums oneSums otherSums byFeet kept over rcount rcust ssums ways nextWays reached nextReached found least greatest) sz)) (va_Qi (fun (r : Int32) (z : (Nat → Int64) × (Nat → Int64)) => r = aRead bytes texts lengths sorts nxt L nv) (fun (z : (Nat → Int64) × (Nat → Int64)) (t : State) => va_P g.1 vwCl (wX g asked values bytes starts ends (nI (L)) (nI (pt)) texts lengths feet sorts nxt (nI (nv)) sums oneSums otherSums byFeet kept over rcount rcust ssums (z.1) (z.2) reached nextReached found least greatest) t.heap) (aW 25 g.2.2 sz)) 0 0 (aW 25 g.2.2 sz) := by
  refine Met.ofW (cc := cX5_readings) (maxL := 1) (ret := (some .int)) (by decide) rfl ?_
  intro p e s m args below meth c s₁ B hml hv
  obtain ⟨rfl, hsz9, hP, hK, hN⟩ := hv
  subst hsz9
  have hx := B.exec
  have hb := B.bytes
  have hr := B.returns
  have hts := atoms_spec (ws := wsX5_readings) B.pre
  have hown : s.vm.findClass RX5 = some m.cls := findClass_of_methodNamed B.named
  have hlocks := B.notSynchronized
  have hS : va_S (aW 25 g.2.2 s.heap.size) s.heap s.heap [] := va_S.rf
  have hl := lv_entry ([.ref (g.2.2 0)]) (n := 1) (Nat.le_of_ble_eq_true rfl)
  rw [lg_entry_eq]
  generalize (lg_sl ([.ref (g.2.2 0)]) ++ List.replicate (1 - (lg_sl ([.ref (g.2.2 0)])).length) Slot.unset).toArray = ls at hl ⊢
  have hl : lv_has ls 1 [(0, .ref (g.2.2 0))] := hl
  have hp20 := pn_room bytes L
  refine lv_aload_n hx hb dX5_readings_0 rfl (lv_at hl 0 rfl) ?_
  refine an_get (ci := 5) (v := .ref (g.2.2 3)) (C := RX5) (T := TX5) (N := 6) hx hb hts iw_X5_readings_X5 hown hK hP 0 rfl rfl 1 (by decide) (hts _ fl_X5_readings_19) rfl dX5_readings_1 ?_
  refine an_get (ci := 1) (v := .int (nI (pt))) (C := RX1) (T := TX1) (N := 5) hx hb hts iw_X5_readings_X1 hown hK hP 3 rfl rfl 4 (by decide) (hts _ fl_X5_readings_145) rfl dX5_readings_4 ?_
  refine lv_if_ne (tgt := 13) hx hb dX5_readings_7 (by decide) (fun c_7 => ?_) (fun c_7 => ?_)
  · have c_7 := (not_congr (cz_eq_n (by omega))).mp c_7
    refine lv_aload_n hx hb dX5_readings_13 rfl (lv_at hl 0 rfl) ?_
    refine an_get (ci := 5) (v := .ref (g.2.2 19)) (C := RX5) (T := TX5) (N := 6) hx hb hts iw_X5_readings_X5 hown hK hP 0 rfl rfl 4 (by decide) (hts _ fl_X5_readings_44) rfl dX5_readings_14 ?_
    refine wr_calli (w := (fun (z : (Nat → Int64) × (Nat → Int64)) => (wX g asked values bytes starts ends (nI (L)) (nI (pt)) texts lengths feet sorts nxt (nI (nv)) sums oneSums otherSums byFeet kept over rcount rcust ssums (z.1) (z.2) reached nextReached found least greatest))) (va_runV (As := []) (rest := []) ⟨hx, hb, hml, hown, hts⟩ (c_X2_howManyReadings l (g := g) (asked := asked) (values := values) (bytes := bytes) (starts := starts) (ends := ends) (L := L) (pt := pt) (texts := texts) (lengths := lengths) (feet := feet) (sorts := sorts) (nxt := nxt) (nv := nv) (sums := sums) (oneSums := oneSums) (otherSums := otherSums) (byFeet := byFeet) (kept := kept) (over := over) (rcount := rcount) (rcust := rcust) (ssums := ssums) (ways := ways) (nextWays := nextWays) (reached := reached) (nextReached := nextReached) (found := found) (least := least) (greatest := greatest) (sz := _)  hpt hnv hL2 hrow hle hso hd) (cwV 0 hts gX5_readings_X2_howManyReadings rfl rfl rfl (by decide +kernel) ⟨Nat.le_of_ble_eq_true rfl, Nat.le_of_ble_eq_true rfl⟩) (pre_V qW_bl (va_recv hK hP (ci := 2) (q0 := 19) rfl rfl) (fun U hU hW => ⟨by rw [hU], pW_of hP hK hN hU hW⟩)) rfl rfl hl.1 rfl (lv_room (Nat.le_of_ble_eq_true rfl)) dX5_readings_17 ⟨Nat.zero_le _, Nat.zero_le _⟩) hS (fun r17 z17 H locs hp17 hP hS => ?_)
    obtain ⟨ways17, nextWays17⟩ := z17
    try dsimp only at hp17
    have hP : va_P g.1 vwCl (wX g asked values bytes starts ends (nI (L)) (nI (pt)) texts lengths feet sorts nxt (nI (nv)) sums oneSums otherSums byFeet kept over rcount rcust ssums ways17 nextWays17 reached nextReached found least greatest) H := hP
    exact wr_iret (ways17, nextWays17) hx hb hr hlocks (by unfold aRead; rw [if_neg (by omega)]; exact hp17) (fun t ht => show va_P g.1 vwCl (wX g asked values bytes starts ends (nI (L)) (nI (pt)) texts lengths feet sorts nxt (nI (nv)) sums oneSums otherSums byFeet kept over rcount rcust ssums ways17 nextWays17 reached nextReached found least greatest) t.heap by rw [ht]; exact hP) hS dX5_readings_20
  · have c_7 := (cz_eq_n (by omega)).mp c_7
    refine lv_bipush (v := ((-2 : Int32))) hx hb dX5_readings_10 (by decide) ?_
    exact wr_iret (ways, nextWays) hx hb hr hlocks (by unfold aRead; rw [if_pos (by omega)]) (fun t ht => show va_P g.1 vwCl (wX g asked values bytes starts ends (nI (L)) (nI (pt)) texts lengths feet sorts nxt (nI (nv)) sums oneSums otherSums byFeet kept over rcount rcust ssums ways nextWays reached nextReached found least greatest) t.heap by rw [ht]; exact hP) hS dX5_readings_12
