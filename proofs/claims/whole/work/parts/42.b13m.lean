theorem iw_X6_line_X6 : ∀ w ∈ u_ws RX6 TX6 23, w ∈ wsX6_line := by decide +kernel
theorem fl_X6_line_22 : Cond.fieldLink RX6 22 (TX6 8).1 (TX6 8).2.1 (TX6 8).2.2.1 ∈ wsX6_line := by decide +kernel
theorem fl_X6_line_25 : Cond.fieldLink RX6 25 (TX6 9).1 (TX6 9).2.1 (TX6 9).2.2.1 ∈ wsX6_line := by decide +kernel
theorem fl_X6_line_32 : Cond.fieldLink RX6 32 (TX6 11).1 (TX6 11).2.1 (TX6 11).2.2.1 ∈ wsX6_line := by decide +kernel
theorem fl_X6_line_39 : Cond.fieldLink RX6 39 (TX6 13).1 (TX6 13).2.1 (TX6 13).2.2.1 ∈ wsX6_line := by decide +kernel
theorem fl_X6_line_67 : Cond.fieldLink RX6 67 (TX6 0).1 (TX6 0).2.1 (TX6 0).2.2.1 ∈ wsX6_line := by decide +kernel
set_option maxHeartbeats 200000 in
set_option maxRecDepth 100000 in
theorem c_X6_line (l : Launch) {g : GW} {trace : Int64} {value : Nat → Int32} {draft : Nat → Int32} {typed : Int32} {nv : Nat} {letter : Nat → Int32} {long1 : Nat → Int32} {feet : Nat → Int32} {sort : Nat → Int32} {order : Nat → Int32} {left : Nat → Int64} {opn : Nat → Int64} {own : Nat → Int32} {other : Nat → Int32} {pick : Nat → Int32} {parts : Int32} {frm : Nat → Int32} {size : Nat → Int32} {isYear : Nat → Int32} {isNext : Nat → Int32} {ways : Nat → Int64} {nextWays : Nat → Int64} {sz : Nat} (ft : Int32) (y : Int32) (counting : Int32) (custom : Int32) (number : Int64) (ix : Int32) (hnv : nv ≤ 10) (hle : okV long1 nv 1 8) (hfe : okV feet nv 1 3) (hso : okV sort nv 0 2) (hva : okV value 104 0 1000) (hd : dW 19 g.2.2) : Met l yX6_line wsX6_line ({ frames := 6, cells := 0, slots := 0, locals := 144 }) (va_Pc ([.ref (g.2.2 0), .int (ft), .int (y), .int (counting), .int (custom), .long (number), .int (ix)]) (qW g (wM g trace value draft typed (nI (nv)) letter long1 feet sort order left opn own other pick parts frm size isYear isNext ways nextWays) sz)) (va_Qi (fun (r : Int32) (z : (Nat → Int32) × (Nat → Int64)) => r = (if lok ft y counting custom then aLine feet sort order (owf value letter long1 (tn counting) (tn custom)) nv ft y number ix else (-2 : Int32))) (fun (z : (Nat → Int32) × (Nat → Int64)) (t : State) => va_P g.1 vwCl (wM g trace value draft typed (nI (nv)) letter long1 feet sort order (z.2) opn (z.1) other pick parts frm size isYear isNext ways nextWays) t.heap) (aW 19 g.2.2 sz)) 0 0 (aW 19 g.2.2 sz) := by
  refine Met.ofW (cc := cX6_line) (maxL := 18) (ret := (some .int)) (by decide) rfl ?_
  intro p e s m args below meth c s₁ B hml hv
  obtain ⟨rfl, hsz9, hP, hK, hN⟩ := hv
  subst hsz9
  have hx := B.exec
  have hb := B.bytes
  have hr := B.returns
  have hts := atoms_spec (ws := wsX6_line) B.pre
  have hown : s.vm.findClass RX6 = some m.cls := findClass_of_methodNamed B.named
  have hlocks := B.notSynchronized
  have hS : va_S (aW 19 g.2.2 s.heap.size) s.heap s.heap [] := va_S.rf
  have hl := lv_entry ([.ref (g.2.2 0), .int (ft), .int (y), .int (counting), .int (custom), .long (number), .int (ix)]) (n := 18) (Nat.le_of_ble_eq_true rfl)
  rw [lg_entry_eq]
  generalize (lg_sl ([.ref (g.2.2 0), .int (ft), .int (y), .int (counting), .int (custom), .long (number), .int (ix)]) ++ List.replicate (18 - (lg_sl ([.ref (g.2.2 0), .int (ft), .int (y), .int (counting), .int (custom), .long (number), .int (ix)])).length) Slot.unset).toArray = ls at hl ⊢
  have hl : lv_has ls 18 [(0, .ref (g.2.2 0)), (1, .int (ft)), (2, .int (y)), (3, .int (counting)), (4, .int (custom)), (5, .long (number)), (7, .int (ix))] := hl
  have hz0 := lz_toInt
  refine lv_aload_n hx hb dX6_line_0 rfl (lv_at hl 0 rfl) ?_
  refine lv_iconst (v := (nI (0))) hx hb dX6_line_1 (by decide) ?_
  refine an_put (ci := 6) (v := .int (nI (0))) (ty := .int) (C := RX6) (T := TX6) (N := 23) (ws' := (wM g trace value draft typed (nI (nv)) letter long1 feet sort order left opn own other pick parts frm size isYear isNext ways nextWays)) hx hb hts iw_X6_line_X6 tyX6 tyX6_ok nmX6 hown hK hP (wM_D hd) hS 0 rfl rfl 0 (by decide) (hts _ fl_X6_line_67) rfl (by decide +kernel) (rfl) (rfl) (Nat.le_of_ble_eq_true rfl) rfl dX6_line_2 (fun H locs hP hS => ?_)
  refine lv_iload_n hx hb dX6_line_5 rfl (lv_at hl 1 rfl) ?_
  refine lv_iload_n hx hb dX6_line_6 rfl (lv_at hl 2 rfl) ?_
  refine lv_iload_n hx hb dX6_line_7 rfl (lv_at hl 3 rfl) ?_
  refine lv_iload hx hb dX6_line_8 (lv_at hl 4 rfl) ?_
  refine ro_call (va_runS (As := [.int (ft), .int (y), .int (counting), .int (custom)]) (rest := []) ⟨hx, hb, hml, hown, hts⟩ (c_X6_isAsked l (ft) (y) (counting) (custom)) (va_cwS 4 hts gX6_line_X6_isAsked rfl rfl rfl (by decide +kernel) ⟨Nat.le_of_ble_eq_true rfl, Nat.le_of_ble_eq_true rfl⟩) pre_0 rfl rfl hl.1 rfl (lv_room (Nat.le_of_ble_eq_true rfl)) dX6_line_10 ⟨Nat.zero_le _, Nat.zero_le _⟩) ?_
  refine lv_if_eq (tgt := 28) hx hb dX6_line_13 (by decide) (fun c_13 => ?_) (fun c_13 => ?_)
  · have c_13 := if_n c_13
    refine lv_bipush (v := ((-2 : Int32))) hx hb dX6_line_28 (by decide) ?_
    exact wr_iret (own, left) hx hb hr hlocks (by first | (rw [if_neg c_13]; done) | (rw [if_pos c_13]; unfold aLine; rw [if_neg (by omega)])) (fun t ht => show va_P g.1 vwCl (wM g trace value draft typed (nI (nv)) letter long1 feet sort order left opn own other pick parts frm size isYear isNext ways nextWays) t.heap by rw [ht]; exact hP) hS dX6_line_30
  · have c_13 := if_p c_13
    refine lv_lload hx hb dX6_line_16 (lv_at hl 5 rfl) ?_
    refine lv_lconst (v := (lN (0))) hx hb dX6_line_18 (by decide) ?_
    refine W.lcmp hx hb dX6_line_19 ?_
    refine lv_if_lt (tgt := 28) hx hb dX6_line_20 (by decide) (fun c_20 => ?_) (fun c_20 => ?_)
    · have c_20 := (cw_lt (number) (lN (0))).1 c_20
      refine lv_bipush (v := ((-2 : Int32))) hx hb dX6_line_28 (by decide) ?_
      exact wr_iret (own, left) hx hb hr hlocks (by first | (rw [if_neg c_13]; done) | (rw [if_pos c_13]; unfold aLine; rw [if_neg (by omega)])) (fun t ht => show va_P g.1 vwCl (wM g trace value draft typed (nI (nv)) letter long1 feet sort order left opn own other pick parts frm size isYear isNext ways nextWays) t.heap by rw [ht]; exact hP) hS dX6_line_30
    · have c_20 := (cw_lt (number) (lN (0))).2 c_20
      refine lv_iload hx hb dX6_line_23 (lv_at hl 6 rfl) ?_
      refine lv_if_ge (tgt := 31) hx hb dX6_line_25 (by decide) (fun c_25 => ?_) (fun c_25 => ?_)
      · have c_25 := (cz_ge_i).mp c_25
        have cA := c_13
        obtain ⟨⟨h11, h12⟩, ⟨h13, h14⟩, ⟨h15, h16⟩, h17, h18⟩ := c_13
        obtain ⟨f0, hf0, rfl⟩ := iN_of (x := ft) (b := 9) (by omega) (by omega)
        obtain ⟨y0, hy0, rfl⟩ := iN_of (x := y) (b := 3001) (by omega) (by omega)
        obtain ⟨n9, hn9, rfl⟩ := iN_of (b := 3) h15 h16
        obtain ⟨k9, hk9, rfl⟩ := iN_of (b := 4) h17 h18
        have e1 : tn (nI f0) = f0 := tn_nI (by omega)
        have e2 : tn (nI y0) = y0 := tn_nI (by omega)
        have e3 : tn (nI n9) = n9 := tn_nI (by omega)
        have e4 : tn (nI k9) = k9 := tn_nI (by omega)
        obtain ⟨num, hnum, rfl⟩ := lN_of (x := number) (by omega)
        have hr9 := fb_rng0 ix
        obtain ⟨i0, hi0, rfl⟩ := iN_of (x := ix) (b := 2 ^ 31) (by omega) (by omega)
        have e5 : (lN num).toInt.toNat = num := by rw [cx_T hnum]; rfl
        have e6 : tn (nI i0) = i0 := tn_nI (by omega)
        have e7 : 0 ≤ (lN num).toInt := by rw [cx_T hnum]; omega
        have e8 : 0 ≤ (nI i0).toInt := by rw [nI_toInt (by omega)]; omega
        refine lv_aload_n hx hb dX6_line_31 rfl (lv_at hl 0 rfl) ?_
        refine lv_iload_n hx hb dX6_line_32 rfl (lv_at hl 1 rfl) ?_
        refine lv_iload_n hx hb dX6_line_33 rfl (lv_at hl 2 rfl) ?_
        refine lv_iload_n hx hb dX6_line_34 rfl (lv_at hl 3 rfl) ?_
        refine lv_iload hx hb dX6_line_35 (lv_at hl 4 rfl) ?_
        refine wr_callv (w := (fun (z : (Nat → Int32) × (Nat → Int64)) => (wM g trace value draft typed (nI (nv)) letter long1 feet sort order (z.2) opn (z.1) other pick parts frm size isYear isNext ways nextWays))) (va_runV (As := [.int (nI (f0)), .int (nI (y0)), .int (nI (n9)), .int (nI (k9))]) (rest := []) ⟨hx, hb, hml, hown, hts⟩ (c_X6_works l (g := g) (trace := trace) (value := value) (draft := draft) (typed := typed) (nv := nv) (letter := letter) (long1 := long1) (feet := feet) (sort := sort) (order := order) (left := left) (opn := opn) (own := own) (other := other) (pick := pick) (parts := parts) (frm := frm) (size := size) (isYear := isYear) (isNext := isNext) (ways := ways) (nextWays := nextWays) (sz := _) (f0) (y0) (n9) (k9) (by omega) (by omega) hn9 hk9 hnv hle hfe hso hva hd) (cwV 4 hts gX6_line_X6_works rfl rfl rfl (by decide +kernel) ⟨Nat.le_of_ble_eq_true rfl, Nat.le_of_ble_eq_true rfl⟩) (pre_V qW_bl (va_recv hK hP (ci := 6) (q0 := 0) rfl rfl) (fun U hU hW => ⟨by rw [hU], pW_of hP hK hN hU hW⟩)) rfl rfl hl.1 rfl (lv_room (Nat.le_of_ble_eq_true rfl)) dX6_line_37 ⟨Nat.zero_le _, Nat.zero_le _⟩) hS (fun z37 H locs hp37 hP hS => ?_)
        obtain ⟨own37, left37⟩ := z37
        try dsimp only at hp37
        have hP : va_P g.1 vwCl (wM g trace value draft typed (nI (nv)) letter long1 feet sort order left37 opn own37 other pick parts frm size isYear isNext ways nextWays) H := hP
        have hb9 : lwy feet sort order (owf value letter long1 n9 k9) nv f0 3 y0 < 2 ^ 63 := Nat.lt_trans (lwy_lt hnv hfe (by omega)) (by decide)
        refine lv_lload hx hb dX6_line_40 (lv_at hl 5 rfl) ?_
        refine lv_aload_n hx hb dX6_line_42 rfl (lv_at hl 0 rfl) ?_
        refine an_get (ci := 6) (v := .ref (g.2.2 8)) (C := RX6) (T := TX6) (N := 23) hx hb hts iw_X6_line_X6 hown hK hP 0 rfl rfl 11 (by decide) (hts _ fl_X6_line_32) rfl dX6_line_43 ?_
        refine lv_iload_n hx hb dX6_line_46 rfl (lv_at hl 1 rfl) ?_
        refine lv_iconst (v := (nI (3))) hx hb dX6_line_47 (by decide) ?_
        refine lv_iload_n hx hb dX6_line_48 rfl (lv_at hl 2 rfl) ?_
        refine ro_call (va_runS (As := [.int (nI (f0)), .int (nI (3)), .int (nI (y0))]) (rest := [.ref (g.2.2 8), .long (lN (num))]) ⟨hx, hb, hml, hown, hts⟩ (c_X6_place l (f0) (3) (y0)) (va_cwS 3 hts gX6_line_X6_place rfl rfl rfl (by decide +kernel) ⟨Nat.le_of_ble_eq_true rfl, Nat.le_of_ble_eq_true rfl⟩) pre_0 rfl rfl hl.1 rfl (lv_room (Nat.le_of_ble_eq_true rfl)) dX6_line_49 ⟨Nat.zero_le _, Nat.zero_le _⟩) ?_
        refine an_lald (f := left37) hx hb hK hP 8 1 rfl rfl (by decide) (by omega) dX6_line_52 ?_
        refine ln_tol (y := (lN (lwy feet sort order (owf value letter long1 n9 k9) nv f0 3 y0))) (hp37.2 f0 3 y0 (by omega) (by omega) (by omega)) ?_
        refine W.lcmp hx hb dX6_line_53 ?_
        refine lv_if_lt (tgt := 60) hx hb dX6_line_54 (by decide) (fun c_54 => ?_) (fun c_54 => ?_)
        · have c_54 := (cx_lt (by first | exact hnum | exact hb9) (by first | exact hnum | exact hb9)).1 c_54
          refine lv_iload_n hx hb dX6_line_60 rfl (lv_at hl 1 rfl) ?_
          refine lv_istore (lv' := [(8, .int (nI (f0))), (0, .ref (g.2.2 0)), (1, .int (nI (f0))), (2, .int (nI (y0))), (3, .int (nI (n9))), (4, .int (nI (k9))), (5, .long (lN (num))), (7, .int (nI (i0)))]) hx hb dX6_line_61 hl (by decide) rfl (fun ls hl => ?_)
          refine lv_iconst (v := (nI (3))) hx hb dX6_line_63 (by decide) ?_
          refine lv_istore (lv' := [(9, .int (nI (3))), (8, .int (nI (f0))), (0, .ref (g.2.2 0)), (1, .int (nI (f0))), (2, .int (nI (y0))), (3, .int (nI (n9))), (4, .int (nI (k9))), (5, .long (lN (num))), (7, .int (nI (i0)))]) hx hb dX6_line_64 hl (by decide) rfl (fun ls hl => ?_)
          refine lv_iload_n hx hb dX6_line_66 rfl (lv_at hl 4 rfl) ?_
          refine lv_istore (lv' := [(10, .int (nI (y0))), (9, .int (nI (3))), (8, .int (nI (f0))), (0, .ref (g.2.2 0)), (1, .int (nI (f0))), (2, .int (nI (y0))), (3, .int (nI (n9))), (4, .int (nI (k9))), (5, .long (lN (num))), (7, .int (nI (i0)))]) hx hb dX6_line_67 hl (by decide) rfl (fun ls hl => ?_)
          refine lv_lload hx hb dX6_line_69 (lv_at hl 8 rfl) ?_
          refine lv_lstore (lv' := [(11, .long (lN (num))), (10, .int (nI (y0))), (9, .int (nI (3))), (8, .int (nI (f0))), (0, .ref (g.2.2 0)), (1, .int (nI (f0))), (2, .int (nI (y0))), (3, .int (nI (n9))), (4, .int (nI (k9))), (5, .long (lN (num))), (7, .int (nI (i0)))]) hx hb dX6_line_71 hl (by decide) rfl (fun ls hl => ?_)
          refine lv_iconst (v := (nI (0))) hx hb dX6_line_73 (by decide) ?_
          refine lv_istore (lv' := [(13, .int (nI (0))), (11, .long (lN (num))), (10, .int (nI (y0))), (9, .int (nI (3))), (8, .int (nI (f0))), (0, .ref (g.2.2 0)), (1, .int (nI (f0))), (2, .int (nI (y0))), (3, .int (nI (n9))), (4, .int (nI (k9))), (5, .long (lN (num))), (7, .int (nI (i0)))]) hx hb dX6_line_74 hl (by decide) rfl (fun ls hl => ?_)
          have lp_76 : ∀ (n : Nat) (pl : Nat) (f : Nat) (b : Nat) (t2 : Nat) (q2 : Nat), (pl ≤ i0) → (f + pl ≤ 8) → (f ≤ f0) → (b < 4) → (t2 ≤ y0) → (q2 < lwy feet sort order (owf value letter long1 n9 k9) nv f b t2) → (lnf feet sort order (owf value letter long1 n9 k9) nv 8 f0 3 y0 num i0 = lnf feet sort order (owf value letter long1 n9 k9) nv (8 - pl) f b t2 q2 (i0 - pl)) → 8 - pl + f < n → ∀ (H : Heap) (locs : List Loc), va_P g.1 vwCl (wM g trace value draft typed (nI (nv)) letter long1 feet sort order left37 opn own37 other pick parts frm size isYear isNext ways nextWays) H → va_S (aW 19 g.2.2 s.heap.size) s.heap H locs → ∀ (ls : Array Slot), lv_has ls 18 [(0, .ref (g.2.2 0)), (1, .int (nI (f0))), (2, .int (nI (y0))), (3, .int (nI (n9))), (4, .int (nI (k9))), (5, .long (lN (num))), (7, .int (nI (i0))), (8, .int (nI (f))), (9, .int (nI (b))), (10, .int (nI (t2))), (11, .long (lN (q2))), (13, .int (nI (pl)))] → W p l e (headSpec wsX6_line ({ frames := 6, cells := 0, slots := 0, locals := 144 })).room s m (([.ref (g.2.2 0), .int ((nI (f0))), .int ((nI (y0))), .int ((nI (n9))), .int ((nI (k9))), .long ((lN (num))), .int ((nI (i0)))] : List Value).toArray) below meth c H locs 0 0 (MQ below (va_Qi (fun (r : Int32) (z : (Nat → Int32) × (Nat → Int64)) => r = (if lok (nI (f0)) (nI (y0)) (nI (n9)) (nI (k9)) then aLine feet sort order (owf value letter long1 (tn (nI (n9))) (tn (nI (k9)))) nv (nI (f0)) (nI (y0)) (lN (num)) (nI (i0)) else (-2 : Int32))) (fun (z : (Nat → Int32) × (Nat → Int64)) (t : State) => va_P g.1 vwCl (wM g trace value draft typed (nI (nv)) letter long1 feet sort order (z.2) opn (z.1) other pick parts frm size isYear isNext ways nextWays) t.heap) (aW 19 g.2.2 s.heap.size)) (([.ref (g.2.2 0), .int ((nI (f0))), .int ((nI (y0))), .int ((nI (n9))), .int ((nI (k9))), .long ((lN (num))), .int ((nI (i0)))] : List Value).toArray) s 0 0 (aW 19 g.2.2 s.heap.size)) (F0 m 76 ls []) := by
            intro n
            induction n with
            | zero => intro pl f b t2 q2 hp1 hf1 hf2 hb1 ht1 hq9 hx9 hm; exact absurd hm (Nat.not_lt_zero _)
            | succ n ih_76 =>
              intro pl f b t2 q2 hp1 hf1 hf2 hb1 ht1 hq9 hx9 hm_76 H locs hP hS ls hl
              refine lv_iload hx hb dX6_line_76 (lv_at hl 7 rfl) ?_
              refine lv_if_le (tgt := 250) hx hb dX6_line_78 (by decide) (fun c_78 => ?_) (fun c_78 => ?_)
              · have c_78 := (cz_le_n (by omega)).mp c_78
                refine lv_bipush (v := ((-9 : Int32))) hx hb dX6_line_250 (by decide) ?_
                exact wr_iret (own37, left37) hx hb hr hlocks (by rw [if_pos cA]; unfold aLine; rw [e1, e2, e3, e4, e5, e6, if_pos ⟨e7, e8, c_54⟩, hx9, show f = 0 by omega, lnf_end]) (fun t ht => show va_P g.1 vwCl (wM g trace value draft typed (nI (nv)) letter long1 feet sort order left37 opn own37 other pick parts frm size isYear isNext ways nextWays) t.heap by rw [ht]; exact hP) hS dX6_line_252
              · have c_78 := (not_congr (cz_le_n (by omega))).mp c_78
                have hn1 : 1 ≤ nv := by
                  rcases Nat.eq_zero_or_pos nv with z | z
                  · rw [← lwy_s hfe (by omega), z] at hq9; exact absurd hq9 (Nat.not_lt_zero _)
                  · exact z
                have hqb := lwy_lt (fe := feet) (so := sort) (nx := order) (ow := (owf value letter long1 n9 k9)) (s := b) (t := t2) hnv hfe (show f ≤ 8 by omega)
                refine lv_iconst (v := (nI (0))) hx hb dX6_line_81 (by decide) ?_
                refine lv_istore (lv' := [(14, .int (nI (0))), (0, .ref (g.2.2 0)), (1, .int (nI (f0))), (2, .int (nI (y0))), (3, .int (nI (n9))), (4, .int (nI (k9))), (5, .long (lN (num))), (7, .int (nI (i0))), (8, .int (nI (f))), (9, .int (nI (b))), (10, .int (nI (t2))), (11, .long (lN (q2))), (13, .int (nI (pl)))]) hx hb dX6_line_82 hl (by decide) rfl (fun ls hl => ?_)
                refine lv_iconst (v := (nI (0))) hx hb dX6_line_84 (by decide) ?_
                refine lv_istore (lv' := [(15, .int (nI (0))), (14, .int (nI (0))), (0, .ref (g.2.2 0)), (1, .int (nI (f0))), (2, .int (nI (y0))), (3, .int (nI (n9))), (4, .int (nI (k9))), (5, .long (lN (num))), (7, .int (nI (i0))), (8, .int (nI (f))), (9, .int (nI (b))), (10, .int (nI (t2))), (11, .long (lN (q2))), (13, .int (nI (pl)))]) hx hb dX6_line_85 hl (by decide) rfl (fun ls hl => ?_)
                have lp_87 : ∀ (n : Nat) (v : Nat) (fd : Int32) (gd : Nat), (v < nv) → (lsq feet sort order (owf value letter long1 n9 k9) (lwy feet sort order (owf value letter long1 n9 k9) nv) f b t2 v ≤ q2) → ((fd = nI 0 ∧ gd = 1) ∨ (fd = nI 1 ∧ gd = 0 ∧ q2 < lsq feet sort order (owf value letter long1 n9 k9) (lwy feet sort order (owf value letter long1 n9 k9) nv) f b t2 (v + 1))) → 2 * (nv - v) + gd < n → ∀ (H : Heap) (locs : List Loc), va_P g.1 vwCl (wM g trace value draft typed (nI (nv)) letter long1 feet sort order left37 opn own37 other pick parts frm size isYear isNext ways nextWays) H → va_S (aW 19 g.2.2 s.heap.size) s.heap H locs → ∀ (ls : Array Slot), lv_has ls 18 [(0, .ref (g.2.2 0)), (1, .int (nI (f0))), (2, .int (nI (y0))), (3, .int (nI (n9))), (4, .int (nI (k9))), (5, .long (lN (num))), (7, .int (nI (i0))), (8, .int (nI (f))), (9, .int (nI (b))), (10, .int (nI (t2))), (11, .long (lN (q2 - lsq feet sort order (owf value letter long1 n9 k9) (lwy feet sort order (owf value letter long1 n9 k9) nv) f b t2 v))), (13, .int (nI (pl))), (14, .int (nI (v))), (15, .int (fd))] → W p l e (headSpec wsX6_line ({ frames := 6, cells := 0, slots := 0, locals := 144 })).room s m (([.ref (g.2.2 0), .int ((nI (f0))), .int ((nI (y0))), .int ((nI (n9))), .int ((nI (k9))), .long ((lN (num))), .int ((nI (i0)))] : List Value).toArray) below meth c H locs 0 0 (MQ below (va_Qi (fun (r : Int32) (z : (Nat → Int32) × (Nat → Int64)) => r = (if lok (nI (f0)) (nI (y0)) (nI (n9)) (nI (k9)) then aLine feet sort order (owf value letter long1 (tn (nI (n9))) (tn (nI (k9)))) nv (nI (f0)) (nI (y0)) (lN (num)) (nI (i0)) else (-2 : Int32))) (fun (z : (Nat → Int32) × (Nat → Int64)) (t : State) => va_P g.1 vwCl (wM g trace value draft typed (nI (nv)) letter long1 feet sort order (z.2) opn (z.1) other pick parts frm size isYear isNext ways nextWays) t.heap) (aW 19 g.2.2 s.heap.size)) (([.ref (g.2.2 0), .int ((nI (f0))), .int ((nI (y0))), .int ((nI (n9))), .int ((nI (k9))), .long ((lN (num))), .int ((nI (i0)))] : List Value).toArray) s 0 0 (aW 19 g.2.2 s.heap.size)) (F0 m 87 ls []) := by
                  intro n
                  induction n with
                  | zero => intro v fd gd hv1 hvq hfd hm; exact absurd hm (Nat.not_lt_zero _)
                  | succ n ih_87 =>
                    intro v fd gd hv1 hvq hfd hm_87 H locs hP hS ls hl
                    refine lv_iload hx hb dX6_line_87 (lv_at hl 13 rfl) ?_
                    refine lv_if_ne (tgt := 201) hx hb dX6_line_89 (by decide) (fun c_89 => ?_) (fun c_89 => ?_)
                    · have c_89 := (not_congr (cz_eq_i)).mp c_89
                      have hnx : q2 < lsq feet sort order (owf value letter long1 n9 k9) (lwy feet sort order (owf value letter long1 n9 k9) nv) f b t2 (v + 1) := by rcases hfd with h | h; (exact absurd (by rw [h.1]; rfl) c_89); exact h.2.2
                      have hpos := lst_pos (w := lwy feet sort order (owf value letter long1 n9 k9) nv) (fe := feet) (so := sort) (nx := order) (ow := (owf value letter long1 n9 k9)) (f := f) (s := b) (t := t2) (v := v) (by rw [lsq_1] at hnx; omega)
                      have hf9 := hfe v hv1
                      have hs9 := hso v hv1
                      have ho9 := vsm_ok (tx := letter) (n := n9) hva hk9 hle hv1
                      have hp8 : tn (feet v) ≤ f := hpos.1
                      have hp9 : tn (vsm value letter long1 n9 k9 v) ≤ t2 := hpos.2.1
                      refine lv_iload hx hb dX6_line_201 (lv_at hl 11 rfl) ?_
                      refine lv_iload hx hb dX6_line_203 (lv_at hl 6 rfl) ?_
                      refine lv_icmp_ne (tgt := 211) hx hb dX6_line_205 (by decide) (fun c_205 => ?_) (fun c_205 => ?_)
                      · have c_205 := (not_congr (cv_eq_nn (by omega) (by omega))).mp c_205
                        refine lv_iload hx hb dX6_line_211 (lv_at hl 7 rfl) ?_
                        refine lv_aload_n hx hb dX6_line_213 rfl (lv_at hl 0 rfl) ?_
                        refine an_get (ci := 6) (v := .ref (g.2.2 5)) (C := RX6) (T := TX6) (N := 23) hx hb hts iw_X6_line_X6 hown hK hP 0 rfl rfl 8 (by decide) (hts _ fl_X6_line_22) rfl dX6_line_214 ?_
                        refine lv_iload hx hb dX6_line_217 (lv_at hl 12 rfl) ?_
                        refine an_iald (f := feet) hx hb hK hP 5 0 rfl rfl (by decide) (by omega) dX6_line_219 ?_
                        refine ln_toi (y := (nI (tn (feet v)))) (hf9.1) ?_
                        refine ln_isub hx hb (by omega) dX6_line_220 ?_
                        refine lv_istore (lv' := [(8, .int (nI (f - (tn (feet v))))), (0, .ref (g.2.2 0)), (1, .int (nI (f0))), (2, .int (nI (y0))), (3, .int (nI (n9))), (4, .int (nI (k9))), (5, .long (lN (num))), (7, .int (nI (i0))), (9, .int (nI (b))), (10, .int (nI (t2))), (11, .long (lN (q2 - lsq feet sort order (owf value letter long1 n9 k9) (lwy feet sort order (owf value letter long1 n9 k9) nv) f b t2 v))), (13, .int (nI (pl))), (14, .int (nI (v))), (15, .int (fd))]) hx hb dX6_line_221 hl (by decide) rfl (fun ls hl => ?_)
                        refine lv_iload hx hb dX6_line_223 (lv_at hl 9 rfl) ?_
                        refine lv_aload_n hx hb dX6_line_225 rfl (lv_at hl 1 rfl) ?_
                        refine an_get (ci := 6) (v := .ref (g.2.2 10)) (C := RX6) (T := TX6) (N := 23) hx hb hts iw_X6_line_X6 hown hK hP 0 rfl rfl 13 (by decide) (hts _ fl_X6_line_39) rfl dX6_line_226 ?_
                        refine lv_iload hx hb dX6_line_229 (lv_at hl 12 rfl) ?_
                        refine an_iald (f := own37) hx hb hK hP 10 0 rfl rfl (by decide) (by omega) dX6_line_231 ?_
                        refine ln_toi (y := (nI (tn (vsm value letter long1 n9 k9 v)))) ((hp37.1 v hv1).trans ho9.1) ?_
                        refine ln_isub hx hb (by omega) dX6_line_232 ?_
                        refine lv_istore (lv' := [(10, .int (nI (t2 - (tn (vsm value letter long1 n9 k9 v))))), (8, .int (nI (f - (tn (feet v))))), (0, .ref (g.2.2 0)), (1, .int (nI (f0))), (2, .int (nI (y0))), (3, .int (nI (n9))), (4, .int (nI (k9))), (5, .long (lN (num))), (7, .int (nI (i0))), (9, .int (nI (b))), (11, .long (lN (q2 - lsq feet sort order (owf value letter long1 n9 k9) (lwy feet sort order (owf value letter long1 n9 k9) nv) f b t2 v))), (13, .int (nI (pl))), (14, .int (nI (v))), (15, .int (fd))]) hx hb dX6_line_233 hl (by decide) rfl (fun ls hl => ?_)
                        refine lv_aload_n hx hb dX6_line_235 rfl (lv_at hl 2 rfl) ?_
                        refine an_get (ci := 6) (v := .ref (g.2.2 6)) (C := RX6) (T := TX6) (N := 23) hx hb hts iw_X6_line_X6 hown hK hP 0 rfl rfl 9 (by decide) (hts _ fl_X6_line_25) rfl dX6_line_236 ?_
                        refine lv_iload hx hb dX6_line_239 (lv_at hl 12 rfl) ?_
                        refine an_iald (f := sort) hx hb hK hP 6 0 rfl rfl (by decide) (by omega) dX6_line_241 ?_
                        refine ln_toi (y := (nI (tn (sort v)))) (hs9.1) ?_
                        refine lv_istore (lv' := [(9, .int (nI (tn (sort v)))), (10, .int (nI (t2 - (tn (vsm value letter long1 n9 k9 v))))), (8, .int (nI (f - (tn (feet v))))), (0, .ref (g.2.2 0)), (1, .int (nI (f0))), (2, .int (nI (y0))), (3, .int (nI (n9))), (4, .int (nI (k9))), (5, .long (lN (num))), (7, .int (nI (i0))), (11, .long (lN (q2 - lsq feet sort order (owf value letter long1 n9 k9) (lwy feet sort order (owf value letter long1 n9 k9) nv) f b t2 v))), (13, .int (nI (pl))), (14, .int (nI (v))), (15, .int (fd))]) hx hb dX6_line_242 hl (by decide) rfl (fun ls hl => ?_)
                        refine lv_iinc (v := (nI (pl + 1))) (lv' := [(13, .int (nI (pl + 1))), (9, .int (nI (tn (sort v)))), (10, .int (nI (t2 - (tn (vsm value letter long1 n9 k9 v))))), (8, .int (nI (f - (tn (feet v))))), (0, .ref (g.2.2 0)), (1, .int (nI (f0))), (2, .int (nI (y0))), (3, .int (nI (n9))), (4, .int (nI (k9))), (5, .long (lN (num))), (7, .int (nI (i0))), (11, .long (lN (q2 - lsq feet sort order (owf value letter long1 n9 k9) (lwy feet sort order (owf value letter long1 n9 k9) nv) f b t2 v))), (14, .int (nI (v))), (15, .int (fd))]) hx hb dX6_line_244 hl (k := 11) rfl (nI_add _ 1) (by decide) rfl (fun ls hl => ?_)
                        refine lv_goto (tgt := 76) hx hb dX6_line_247 (by decide) ?_
                        exact ih_76 (pl + 1) (f - tn (feet v)) (tn (sort v)) (t2 - tn (vsm value letter long1 n9 k9 v)) (q2 - lsq feet sort order (owf value letter long1 n9 k9) (lwy feet sort order (owf value letter long1 n9 k9) nv) f b t2 v) (by omega) (by omega) (by omega) (by omega) (by omega) (by rw [show lwy feet sort order (owf value letter long1 n9 k9) nv (f - tn (feet v)) (tn (sort v)) (t2 - tn (vsm value letter long1 n9 k9 v)) = lst feet sort order (owf value letter long1 n9 k9) (lwy feet sort order (owf value letter long1 n9 k9) nv) f b t2 v from hpos.2.2.symm]; rw [lsq_1] at hnx; omega) (hx9.trans (by rw [lnf_on (i := i0 - pl) (by omega) (by omega) hv1 (by omega) hvq hnx]; congr 1)) (by omega) _ _ hP hS ls (lv_sub hl [4, 5, 6, 7, 8, 9, 10, 3, 1, 2, 11, 0] rfl)
                      · have c_205 := (cv_eq_nn (by omega) (by omega)).mp c_205
                        refine lv_iload hx hb dX6_line_208 (lv_at hl 12 rfl) ?_
                        exact wr_iret (own37, left37) hx hb hr hlocks (by rw [if_pos cA]; unfold aLine; rw [e1, e2, e3, e4, e5, e6, if_pos ⟨e7, e8, c_54⟩, hx9, show i0 = pl by omega, Nat.sub_self, lnf_here (by omega) (by omega) hv1 hvq hnx]) (fun t ht => show va_P g.1 vwCl (wM g trace value draft typed (nI (nv)) letter long1 feet sort order left37 opn own37 other pick parts frm size isYear isNext ways nextWays) t.heap by rw [ht]; exact hP) hS dX6_line_210
                    · have c_89 := (cz_eq_i).mp c_89
                      have hg1 : gd = 1 := by rcases hfd with h | h; (exact h.2); exact absurd c_89 (by rw [h.1]; decide)
                      have hf9 := hfe v hv1
                      have hs9 := hso v hv1
                      have ho9 := vsm_ok (tx := letter) (n := n9) hva hk9 hle hv1
                      have hl9 := lst_lt (so := sort) (nx := order) (ow := (owf value letter long1 n9 k9)) (s := b) (t := t2) (v := v) hnv hfe (show f ≤ 8 by omega)
                      refine lv_aload_n hx hb dX6_line_92 rfl (lv_at hl 0 rfl) ?_
                      refine an_get (ci := 6) (v := .ref (g.2.2 5)) (C := RX6) (T := TX6) (N := 23) hx hb hts iw_X6_line_X6 hown hK hP 0 rfl rfl 8 (by decide) (hts _ fl_X6_line_22) rfl dX6_line_93 ?_
                      refine lv_iload hx hb dX6_line_96 (lv_at hl 12 rfl) ?_
                      refine an_iald (f := feet) hx hb hK hP 5 0 rfl rfl (by decide) (by omega) dX6_line_98 ?_
                      refine ln_toi (y := (nI (tn (feet v)))) (hf9.1) ?_
                      refine lv_iload hx hb dX6_line_99 (lv_at hl 7 rfl) ?_
                      refine lv_icmp_gt (tgt := 165) hx hb dX6_line_101 (by decide) (fun c_101 => ?_) (fun c_101 => ?_)
                      · have c_101 := (cv_lt_nn (by omega) (by omega)).mp c_101
                        refine lv_lconst (v := (lN (0))) hx hb dX6_line_165 (by decide) ?_
                        refine ln_tol (y := (lN (lst feet sort order (owf value letter long1 n9 k9) (lwy feet sort order (owf value letter long1 n9 k9) nv) f b t2 v))) (by first | exact congrArg lN (lst_n (w := lwy feet sort order (owf value letter long1 n9 k9) nv) (fe := feet) (so := sort) (nx := order) (ow := (owf value letter long1 n9 k9)) (f := f) (s := b) (t := t2) (v := v) (fun q => absurd q.1 (by omega))) | exact congrArg lN (lst_n (w := lwy feet sort order (owf value letter long1 n9 k9) nv) (fe := feet) (so := sort) (nx := order) (ow := (owf value letter long1 n9 k9)) (f := f) (s := b) (t := t2) (v := v) (fun q => absurd q.2.1 (show ¬ tn (vsm value letter long1 n9 k9 v) ≤ t2 by omega))) | exact congrArg lN (lst_n (w := lwy feet sort order (owf value letter long1 n9 k9) nv) (fe := feet) (so := sort) (nx := order) (ow := (owf value letter long1 n9 k9)) (f := f) (s := b) (t := t2) (v := v) (fun q => c_124 q.2.2))) ?_
                        refine lv_lstore (lv' := [(16, .long (lN (lst feet sort order (owf value letter long1 n9 k9) (lwy feet sort order (owf value letter long1 n9 k9) nv) f b t2 v))), (0, .ref (g.2.2 0)), (1, .int (nI (f0))), (2, .int (nI (y0))), (3, .int (nI (n9))), (4, .int (nI (k9))), (5, .long (lN (num))), (7, .int (nI (i0))), (8, .int (nI (f))), (9, .int (nI (b))), (10, .int (nI (t2))), (11, .long (lN (q2 - lsq feet sort order (owf value letter long1 n9 k9) (lwy feet sort order (owf value letter long1 n9 k9) nv) f b t2 v))), (13, .int (nI (pl))), (14, .int (nI (v))), (15, .int (fd))]) hx hb dX6_line_166 hl (by decide) rfl (fun ls hl => ?_)
                        refine lv_lload hx hb dX6_line_168 (lv_at hl 11 rfl) ?_
                        refine lv_lload hx hb dX6_line_170 (lv_at hl 0 rfl) ?_
                        refine W.lcmp hx hb dX6_line_172 ?_
                        refine lv_if_ge (tgt := 180) hx hb dX6_line_173 (by decide) (fun c_173 => ?_) (fun c_173 => ?_)
                        · have c_173 := (cx_ge (by omega) (by omega)).1 c_173
                          refine lv_iconst (v := (nI (0))) hx hb dX6_line_180 (by decide) ?_
                          refine lv_istore (lv' := [(15, .int (nI (0))), (16, .long (lN (lst feet sort order (owf value letter long1 n9 k9) (lwy feet sort order (owf value letter long1 n9 k9) nv) f b t2 v))), (0, .ref (g.2.2 0)), (1, .int (nI (f0))), (2, .int (nI (y0))), (3, .int (nI (n9))), (4, .int (nI (k9))), (5, .long (lN (num))), (7, .int (nI (i0))), (8, .int (nI (f))), (9, .int (nI (b))), (10, .int (nI (t2))), (11, .long (lN (q2 - lsq feet sort order (owf value letter long1 n9 k9) (lwy feet sort order (owf value letter long1 n9 k9) nv) f b t2 v))), (13, .int (nI (pl))), (14, .int (nI (v)))]) hx hb dX6_line_181 hl (by decide) rfl (fun ls hl => ?_)
                          refine lv_iload hx hb dX6_line_183 (lv_at hl 0 rfl) ?_
                          refine lv_if_ne (tgt := 198) hx hb dX6_line_185 (by decide) (fun c_185 => ?_) (fun c_185 => ?_)
                          · have c_185 := (not_congr (cz_eq_n (by omega))).mp c_185
                            exact absurd c_185 (by omega)
                          · have c_185 := (cz_eq_n (by omega)).mp c_185
                            refine lv_lload hx hb dX6_line_188 (lv_at hl 12 rfl) ?_
                            refine lv_lload hx hb dX6_line_190 (lv_at hl 1 rfl) ?_
                            refine ln_lsub hx hb (by omega) dX6_line_192 ?_
                            refine ln_tol (y := (lN (q2 - lsq feet sort order (owf value letter long1 n9 k9) (lwy feet sort order (owf value letter long1 n9 k9) nv) f b t2 (v + 1)))) (by rw [Nat.sub_sub, ← lsq_1]) ?_
                            refine lv_lstore (lv' := [(11, .long (lN (q2 - lsq feet sort order (owf value letter long1 n9 k9) (lwy feet sort order (owf value letter long1 n9 k9) nv) f b t2 (v + 1)))), (15, .int (nI (0))), (16, .long (lN (lst feet sort order (owf value letter long1 n9 k9) (lwy feet sort order (owf value letter long1 n9 k9) nv) f b t2 v))), (0, .ref (g.2.2 0)), (1, .int (nI (f0))), (2, .int (nI (y0))), (3, .int (nI (n9))), (4, .int (nI (k9))), (5, .long (lN (num))), (7, .int (nI (i0))), (8, .int (nI (f))), (9, .int (nI (b))), (10, .int (nI (t2))), (13, .int (nI (pl))), (14, .int (nI (v)))]) hx hb dX6_line_193 hl (by decide) rfl (fun ls hl => ?_)
                            refine lv_iinc (v := (nI (v + 1))) (lv' := [(14, .int (nI (v + 1))), (11, .long (lN (q2 - lsq feet sort order (owf value letter long1 n9 k9) (lwy feet sort order (owf value letter long1 n9 k9) nv) f b t2 (v + 1)))), (15, .int (nI (0))), (16, .long (lN (lst feet sort order (owf value letter long1 n9 k9) (lwy feet sort order (owf value letter long1 n9 k9) nv) f b t2 v))), (0, .ref (g.2.2 0)), (1, .int (nI (f0))), (2, .int (nI (y0))), (3, .int (nI (n9))), (4, .int (nI (k9))), (5, .long (lN (num))), (7, .int (nI (i0))), (8, .int (nI (f))), (9, .int (nI (b))), (10, .int (nI (t2))), (13, .int (nI (pl)))]) hx hb dX6_line_195 hl (k := 14) rfl (nI_add _ 1) (by decide) rfl (fun ls hl => ?_)
                            refine lv_goto (tgt := 87) hx hb dX6_line_198 (by decide) ?_
                            exact ih_87 (v + 1) (nI 0) 1 (by rcases Nat.lt_or_ge (v + 1) nv with z | z; (exact z); (have z2 := lsq_mono feet sort order (owf value letter long1 n9 k9) (lwy feet sort order (owf value letter long1 n9 k9) nv) f b t2 nv (v + 1) z); (rw [lwy_s hfe (by omega), lsq_1] at z2; omega)) (by rw [lsq_1]; omega) (Or.inl ⟨rfl, rfl⟩) (by omega) _ _ hP hS ls (lv_sub hl [4, 5, 6, 7, 8, 9, 10, 11, 12, 13, 1, 14, 0, 2] rfl)
                        · have c_173 := (cx_ge (by omega) (by omega)).2 c_173
                          refine lv_iconst (v := (nI (1))) hx hb dX6_line_176 (by decide) ?_
                          refine lv_goto (tgt := 181) hx hb dX6_line_177 (by decide) ?_
                          refine lv_istore (lv' := [(15, .int (nI (1))), (16, .long (lN (lst feet sort order (owf value letter long1 n9 k9) (lwy feet sort order (owf value letter long1 n9 k9) nv) f b t2 v))), (0, .ref (g.2.2 0)), (1, .int (nI (f0))), (2, .int (nI (y0))), (3, .int (nI (n9))), (4, .int (nI (k9))), (5, .long (lN (num))), (7, .int (nI (i0))), (8, .int (nI (f))), (9, .int (nI (b))), (10, .int (nI (t2))), (11, .long (lN (q2 - lsq feet sort order (owf value letter long1 n9 k9) (lwy feet sort order (owf value letter long1 n9 k9) nv) f b t2 v))), (13, .int (nI (pl))), (14, .int (nI (v)))]) hx hb dX6_line_181 hl (by decide) rfl (fun ls hl => ?_)
                          refine lv_iload hx hb dX6_line_183 (lv_at hl 0 rfl) ?_
                          refine lv_if_ne (tgt := 198) hx hb dX6_line_185 (by decide) (fun c_185 => ?_) (fun c_185 => ?_)
                          · have c_185 := (not_congr (cz_eq_n (by omega))).mp c_185
                            refine lv_goto (tgt := 87) hx hb dX6_line_198 (by decide) ?_
                            exact ih_87 v (nI 1) 0 (hv1) (hvq) (Or.inr ⟨rfl, rfl, by rw [lsq_1]; omega⟩) (by omega) _ _ hP hS ls (lv_sub hl [2, 3, 4, 5, 6, 7, 8, 9, 10, 11, 12, 13, 14, 0] rfl)
                          · have c_185 := (cz_eq_n (by omega)).mp c_185
                            exact absurd c_185 (by omega)
                      · have c_101 := (not_congr (cv_lt_nn (by omega) (by omega))).mp c_101
                        refine lv_aload_n hx hb dX6_line_104 rfl (lv_at hl 0 rfl) ?_
                        refine an_get (ci := 6) (v := .ref (g.2.2 10)) (C := RX6) (T := TX6) (N := 23) hx hb hts iw_X6_line_X6 hown hK hP 0 rfl rfl 13 (by decide) (hts _ fl_X6_line_39) rfl dX6_line_105 ?_
                        refine lv_iload hx hb dX6_line_108 (lv_at hl 12 rfl) ?_
                        refine an_iald (f := own37) hx hb hK hP 10 0 rfl rfl (by decide) (by omega) dX6_line_110 ?_
                        refine ln_toi (y := (nI (tn (vsm value letter long1 n9 k9 v)))) ((hp37.1 v hv1).trans ho9.1) ?_
                        refine lv_iload hx hb dX6_line_111 (lv_at hl 9 rfl) ?_
                        refine lv_icmp_gt (tgt := 165) hx hb dX6_line_113 (by decide) (fun c_113 => ?_) (fun c_113 => ?_)
                        · have c_113 := (cv_lt_nn (by omega) (by omega)).mp c_113
                          refine lv_lconst (v := (lN (0))) hx hb dX6_line_165 (by decide) ?_
                          refine ln_tol (y := (lN (lst feet sort order (owf value letter long1 n9 k9) (lwy feet sort order (owf value letter long1 n9 k9) nv) f b t2 v))) (by first | exact congrArg lN (lst_n (w := lwy feet sort order (owf value letter long1 n9 k9) nv) (fe := feet) (so := sort) (nx := order) (ow := (owf value letter long1 n9 k9)) (f := f) (s := b) (t := t2) (v := v) (fun q => absurd q.1 (by omega))) | exact congrArg lN (lst_n (w := lwy feet sort order (owf value letter long1 n9 k9) nv) (fe := feet) (so := sort) (nx := order) (ow := (owf value letter long1 n9 k9)) (f := f) (s := b) (t := t2) (v := v) (fun q => absurd q.2.1 (show ¬ tn (vsm value letter long1 n9 k9 v) ≤ t2 by omega))) | exact congrArg lN (lst_n (w := lwy feet sort order (owf value letter long1 n9 k9) nv) (fe := feet) (so := sort) (nx := order) (ow := (owf value letter long1 n9 k9)) (f := f) (s := b) (t := t2) (v := v) (fun q => c_124 q.2.2))) ?_
                          refine lv_lstore (lv' := [(16, .long (lN (lst feet sort order (owf value letter long1 n9 k9) (lwy feet sort order (owf value letter long1 n9 k9) nv) f b t2 v))), (0, .ref (g.2.2 0)), (1, .int (nI (f0))), (2, .int (nI (y0))), (3, .int (nI (n9))), (4, .int (nI (k9))), (5, .long (lN (num))), (7, .int (nI (i0))), (8, .int (nI (f))), (9, .int (nI (b))), (10, .int (nI (t2))), (11, .long (lN (q2 - lsq feet sort order (owf value letter long1 n9 k9) (lwy feet sort order (owf value letter long1 n9 k9) nv) f b t2 v))), (13, .int (nI (pl))), (14, .int (nI (v))), (15, .int (fd))]) hx hb dX6_line_166 hl (by decide) rfl (fun ls hl => ?_)
                          refine lv_lload hx hb dX6_line_168 (lv_at hl 11 rfl) ?_
                          refine lv_lload hx hb dX6_line_170 (lv_at hl 0 rfl) ?_
                          refine W.lcmp hx hb dX6_line_172 ?_
                          refine lv_if_ge (tgt := 180) hx hb dX6_line_173 (by decide) (fun c_173 => ?_) (fun c_173 => ?_)
                          · have c_173 := (cx_ge (by omega) (by omega)).1 c_173
                            refine lv_iconst (v := (nI (0))) hx hb dX6_line_180 (by decide) ?_
                            refine lv_istore (lv' := [(15, .int (nI (0))), (16, .long (lN (lst feet sort order (owf value letter long1 n9 k9) (lwy feet sort order (owf value letter long1 n9 k9) nv) f b t2 v))), (0, .ref (g.2.2 0)), (1, .int (nI (f0))), (2, .int (nI (y0))), (3, .int (nI (n9))), (4, .int (nI (k9))), (5, .long (lN (num))), (7, .int (nI (i0))), (8, .int (nI (f))), (9, .int (nI (b))), (10, .int (nI (t2))), (11, .long (lN (q2 - lsq feet sort order (owf value letter long1 n9 k9) (lwy feet sort order (owf value letter long1 n9 k9) nv) f b t2 v))), (13, .int (nI (pl))), (14, .int (nI (v)))]) hx hb dX6_line_181 hl (by decide) rfl (fun ls hl => ?_)
                            refine lv_iload hx hb dX6_line_183 (lv_at hl 0 rfl) ?_
                            refine lv_if_ne (tgt := 198) hx hb dX6_line_185 (by decide) (fun c_185 => ?_) (fun c_185 => ?_)
                            · have c_185 := (not_congr (cz_eq_n (by omega))).mp c_185
                              exact absurd c_185 (by omega)
                            · have c_185 := (cz_eq_n (by omega)).mp c_185
                              refine lv_lload hx hb dX6_line_188 (lv_at hl 12 rfl) ?_
                              refine lv_lload hx hb dX6_line_190 (lv_at hl 1 rfl) ?_
                              refine ln_lsub hx hb (by omega) dX6_line_192 ?_
                              refine ln_tol (y := (lN (q2 - lsq feet sort order (owf value letter long1 n9 k9) (lwy feet sort order (owf value letter long1 n9 k9) nv) f b t2 (v + 1)))) (by rw [Nat.sub_sub, ← lsq_1]) ?_
                              refine lv_lstore (lv' := [(11, .long (lN (q2 - lsq feet sort order (owf value letter long1 n9 k9) (lwy feet sort order (owf value letter long1 n9 k9) nv) f b t2 (v + 1)))), (15, .int (nI (0))), (16, .long (lN (lst feet sort order (owf value letter long1 n9 k9) (lwy feet sort order (owf value letter long1 n9 k9) nv) f b t2 v))), (0, .ref (g.2.2 0)), (1, .int (nI (f0))), (2, .int (nI (y0))), (3, .int (nI (n9))), (4, .int (nI (k9))), (5, .long (lN (num))), (7, .int (nI (i0))), (8, .int (nI (f))), (9, .int (nI (b))), (10, .int (nI (t2))), (13, .int (nI (pl))), (14, .int (nI (v)))]) hx hb dX6_line_193 hl (by decide) rfl (fun ls hl => ?_)
                              refine lv_iinc (v := (nI (v + 1))) (lv' := [(14, .int (nI (v + 1))), (11, .long (lN (q2 - lsq feet sort order (owf value letter long1 n9 k9) (lwy feet sort order (owf value letter long1 n9 k9) nv) f b t2 (v + 1)))), (15, .int (nI (0))), (16, .long (lN (lst feet sort order (owf value letter long1 n9 k9) (lwy feet sort order (owf value letter long1 n9 k9) nv) f b t2 v))), (0, .ref (g.2.2 0)), (1, .int (nI (f0))), (2, .int (nI (y0))), (3, .int (nI (n9))), (4, .int (nI (k9))), (5, .long (lN (num))), (7, .int (nI (i0))), (8, .int (nI (f))), (9, .int (nI (b))), (10, .int (nI (t2))), (13, .int (nI (pl)))]) hx hb dX6_line_195 hl (k := 14) rfl (nI_add _ 1) (by decide) rfl (fun ls hl => ?_)
                              refine lv_goto (tgt := 87) hx hb dX6_line_198 (by decide) ?_
                              exact ih_87 (v + 1) (nI 0) 1 (by rcases Nat.lt_or_ge (v + 1) nv with z | z; (exact z); (have z2 := lsq_mono feet sort order (owf value letter long1 n9 k9) (lwy feet sort order (owf value letter long1 n9 k9) nv) f b t2 nv (v + 1) z); (rw [lwy_s hfe (by omega), lsq_1] at z2; omega)) (by rw [lsq_1]; omega) (Or.inl ⟨rfl, rfl⟩) (by omega) _ _ hP hS ls (lv_sub hl [4, 5, 6, 7, 8, 9, 10, 11, 12, 13, 1, 14, 0, 2] rfl)
                          · have c_173 := (cx_ge (by omega) (by omega)).2 c_173
                            refine lv_iconst (v := (nI (1))) hx hb dX6_line_176 (by decide) ?_
                            refine lv_goto (tgt := 181) hx hb dX6_line_177 (by decide) ?_
                            refine lv_istore (lv' := [(15, .int (nI (1))), (16, .long (lN (lst feet sort order (owf value letter long1 n9 k9) (lwy feet sort order (owf value letter long1 n9 k9) nv) f b t2 v))), (0, .ref (g.2.2 0)), (1, .int (nI (f0))), (2, .int (nI (y0))), (3, .int (nI (n9))), (4, .int (nI (k9))), (5, .long (lN (num))), (7, .int (nI (i0))), (8, .int (nI (f))), (9, .int (nI (b))), (10, .int (nI (t2))), (11, .long (lN (q2 - lsq feet sort order (owf value letter long1 n9 k9) (lwy feet sort order (owf value letter long1 n9 k9) nv) f b t2 v))), (13, .int (nI (pl))), (14, .int (nI (v)))]) hx hb dX6_line_181 hl (by decide) rfl (fun ls hl => ?_)
                            refine lv_iload hx hb dX6_line_183 (lv_at hl 0 rfl) ?_
                            refine lv_if_ne (tgt := 198) hx hb dX6_line_185 (by decide) (fun c_185 => ?_) (fun c_185 => ?_)
                            · have c_185 := (not_congr (cz_eq_n (by omega))).mp c_185
                              refine lv_goto (tgt := 87) hx hb dX6_line_198 (by decide) ?_
                              exact ih_87 v (nI 1) 0 (hv1) (hvq) (Or.inr ⟨rfl, rfl, by rw [lsq_1]; omega⟩) (by omega) _ _ hP hS ls (lv_sub hl [2, 3, 4, 5, 6, 7, 8, 9, 10, 11, 12, 13, 14, 0] rfl)
                            · have c_185 := (cz_eq_n (by omega)).mp c_185
                              exact absurd c_185 (by omega)
                        · have c_113 := (not_congr (cv_lt_nn (by omega) (by omega))).mp c_113
                          refine lv_aload_n hx hb dX6_line_116 rfl (lv_at hl 0 rfl) ?_
                          refine lv_iload hx hb dX6_line_117 (lv_at hl 8 rfl) ?_
                          refine lv_iload hx hb dX6_line_119 (lv_at hl 12 rfl) ?_
                          refine ro_call (va_runV (As := [.int (nI (b)), .int (nI (v))]) (rest := []) ⟨hx, hb, hml, hown, hts⟩ (c_X6_isAfter l (g := g) (trace := trace) (value := value) (draft := draft) (typed := typed) (vocables := nI (nv)) (letter := letter) (long1 := long1) (feet := feet) (sort := sort) (order := order) (left := left37) (opn := opn) (own := own37) (other := other) (pick := pick) (parts := parts) (frm := frm) (size := size) (isYear := isYear) (isNext := isNext) (ways := ways) (nextWays := nextWays) (b) (v) hb1 (by omega)) (cwV 2 hts gX6_line_X6_isAfter rfl rfl rfl (by decide +kernel) ⟨Nat.le_of_ble_eq_true rfl, Nat.le_of_ble_eq_true rfl⟩) (pre_V pW_bl (va_recv hK hP (ci := 6) (q0 := 0) rfl rfl) (fun U hU hW => pW_of hP hK hN hU hW)) rfl rfl hl.1 rfl (lv_room (Nat.le_of_ble_eq_true rfl)) dX6_line_121 ⟨Nat.zero_le _, Nat.zero_le _⟩) ?_
                          refine lv_if_eq (tgt := 165) hx hb dX6_line_124 (by decide) (fun c_124 => ?_) (fun c_124 => ?_)
                          · have c_124 := if_n c_124
                            refine lv_lconst (v := (lN (0))) hx hb dX6_line_165 (by decide) ?_
                            refine ln_tol (y := (lN (lst feet sort order (owf value letter long1 n9 k9) (lwy feet sort order (owf value letter long1 n9 k9) nv) f b t2 v))) (by first | exact congrArg lN (lst_n (w := lwy feet sort order (owf value letter long1 n9 k9) nv) (fe := feet) (so := sort) (nx := order) (ow := (owf value letter long1 n9 k9)) (f := f) (s := b) (t := t2) (v := v) (fun q => absurd q.1 (by omega))) | exact congrArg lN (lst_n (w := lwy feet sort order (owf value letter long1 n9 k9) nv) (fe := feet) (so := sort) (nx := order) (ow := (owf value letter long1 n9 k9)) (f := f) (s := b) (t := t2) (v := v) (fun q => absurd q.2.1 (show ¬ tn (vsm value letter long1 n9 k9 v) ≤ t2 by omega))) | exact congrArg lN (lst_n (w := lwy feet sort order (owf value letter long1 n9 k9) nv) (fe := feet) (so := sort) (nx := order) (ow := (owf value letter long1 n9 k9)) (f := f) (s := b) (t := t2) (v := v) (fun q => c_124 q.2.2))) ?_
                            refine lv_lstore (lv' := [(16, .long (lN (lst feet sort order (owf value letter long1 n9 k9) (lwy feet sort order (owf value letter long1 n9 k9) nv) f b t2 v))), (0, .ref (g.2.2 0)), (1, .int (nI (f0))), (2, .int (nI (y0))), (3, .int (nI (n9))), (4, .int (nI (k9))), (5, .long (lN (num))), (7, .int (nI (i0))), (8, .int (nI (f))), (9, .int (nI (b))), (10, .int (nI (t2))), (11, .long (lN (q2 - lsq feet sort order (owf value letter long1 n9 k9) (lwy feet sort order (owf value letter long1 n9 k9) nv) f b t2 v))), (13, .int (nI (pl))), (14, .int (nI (v))), (15, .int (fd))]) hx hb dX6_line_166 hl (by decide) rfl (fun ls hl => ?_)
                            refine lv_lload hx hb dX6_line_168 (lv_at hl 11 rfl) ?_
                            refine lv_lload hx hb dX6_line_170 (lv_at hl 0 rfl) ?_
                            refine W.lcmp hx hb dX6_line_172 ?_
                            refine lv_if_ge (tgt := 180) hx hb dX6_line_173 (by decide) (fun c_173 => ?_) (fun c_173 => ?_)
                            · have c_173 := (cx_ge (by omega) (by omega)).1 c_173
                              refine lv_iconst (v := (nI (0))) hx hb dX6_line_180 (by decide) ?_
                              refine lv_istore (lv' := [(15, .int (nI (0))), (16, .long (lN (lst feet sort order (owf value letter long1 n9 k9) (lwy feet sort order (owf value letter long1 n9 k9) nv) f b t2 v))), (0, .ref (g.2.2 0)), (1, .int (nI (f0))), (2, .int (nI (y0))), (3, .int (nI (n9))), (4, .int (nI (k9))), (5, .long (lN (num))), (7, .int (nI (i0))), (8, .int (nI (f))), (9, .int (nI (b))), (10, .int (nI (t2))), (11, .long (lN (q2 - lsq feet sort order (owf value letter long1 n9 k9) (lwy feet sort order (owf value letter long1 n9 k9) nv) f b t2 v))), (13, .int (nI (pl))), (14, .int (nI (v)))]) hx hb dX6_line_181 hl (by decide) rfl (fun ls hl => ?_)
                              refine lv_iload hx hb dX6_line_183 (lv_at hl 0 rfl) ?_
                              refine lv_if_ne (tgt := 198) hx hb dX6_line_185 (by decide) (fun c_185 => ?_) (fun c_185 => ?_)
                              · have c_185 := (not_congr (cz_eq_n (by omega))).mp c_185
                                exact absurd c_185 (by omega)
                              · have c_185 := (cz_eq_n (by omega)).mp c_185
                                refine lv_lload hx hb dX6_line_188 (lv_at hl 12 rfl) ?_
                                refine lv_lload hx hb dX6_line_190 (lv_at hl 1 rfl) ?_
                                refine ln_lsub hx hb (by omega) dX6_line_192 ?_
                                refine ln_tol (y := (lN (q2 - lsq feet sort order (owf value letter long1 n9 k9) (lwy feet sort order (owf value letter long1 n9 k9) nv) f b t2 (v + 1)))) (by rw [Nat.sub_sub, ← lsq_1]) ?_
                                refine lv_lstore (lv' := [(11, .long (lN (q2 - lsq feet sort order (owf value letter long1 n9 k9) (lwy feet sort order (owf value letter long1 n9 k9) nv) f b t2 (v + 1)))), (15, .int (nI (0))), (16, .long (lN (lst feet sort order (owf value letter long1 n9 k9) (lwy feet sort order (owf value letter long1 n9 k9) nv) f b t2 v))), (0, .ref (g.2.2 0)), (1, .int (nI (f0))), (2, .int (nI (y0))), (3, .int (nI (n9))), (4, .int (nI (k9))), (5, .long (lN (num))), (7, .int (nI (i0))), (8, .int (nI (f))), (9, .int (nI (b))), (10, .int (nI (t2))), (13, .int (nI (pl))), (14, .int (nI (v)))]) hx hb dX6_line_193 hl (by decide) rfl (fun ls hl => ?_)
                                refine lv_iinc (v := (nI (v + 1))) (lv' := [(14, .int (nI (v + 1))), (11, .long (lN (q2 - lsq feet sort order (owf value letter long1 n9 k9) (lwy feet sort order (owf value letter long1 n9 k9) nv) f b t2 (v + 1)))), (15, .int (nI (0))), (16, .long (lN (lst feet sort order (owf value letter long1 n9 k9) (lwy feet sort order (owf value letter long1 n9 k9) nv) f b t2 v))), (0, .ref (g.2.2 0)), (1, .int (nI (f0))), (2, .int (nI (y0))), (3, .int (nI (n9))), (4, .int (nI (k9))), (5, .long (lN (num))), (7, .int (nI (i0))), (8, .int (nI (f))), (9, .int (nI (b))), (10, .int (nI (t2))), (13, .int (nI (pl)))]) hx hb dX6_line_195 hl (k := 14) rfl (nI_add _ 1) (by decide) rfl (fun ls hl => ?_)
                                refine lv_goto (tgt := 87) hx hb dX6_line_198 (by decide) ?_
                                exact ih_87 (v + 1) (nI 0) 1 (by rcases Nat.lt_or_ge (v + 1) nv with z | z; (exact z); (have z2 := lsq_mono feet sort order (owf value letter long1 n9 k9) (lwy feet sort order (owf value letter long1 n9 k9) nv) f b t2 nv (v + 1) z); (rw [lwy_s hfe (by omega), lsq_1] at z2; omega)) (by rw [lsq_1]; omega) (Or.inl ⟨rfl, rfl⟩) (by omega) _ _ hP hS ls (lv_sub hl [4, 5, 6, 7, 8, 9, 10, 11, 12, 13, 1, 14, 0, 2] rfl)
                            · have c_173 := (cx_ge (by omega) (by omega)).2 c_173
                              refine lv_iconst (v := (nI (1))) hx hb dX6_line_176 (by decide) ?_
                              refine lv_goto (tgt := 181) hx hb dX6_line_177 (by decide) ?_
                              refine lv_istore (lv' := [(15, .int (nI (1))), (16, .long (lN (lst feet sort order (owf value letter long1 n9 k9) (lwy feet sort order (owf value letter long1 n9 k9) nv) f b t2 v))), (0, .ref (g.2.2 0)), (1, .int (nI (f0))), (2, .int (nI (y0))), (3, .int (nI (n9))), (4, .int (nI (k9))), (5, .long (lN (num))), (7, .int (nI (i0))), (8, .int (nI (f))), (9, .int (nI (b))), (10, .int (nI (t2))), (11, .long (lN (q2 - lsq feet sort order (owf value letter long1 n9 k9) (lwy feet sort order (owf value letter long1 n9 k9) nv) f b t2 v))), (13, .int (nI (pl))), (14, .int (nI (v)))]) hx hb dX6_line_181 hl (by decide) rfl (fun ls hl => ?_)
                              refine lv_iload hx hb dX6_line_183 (lv_at hl 0 rfl) ?_
                              refine lv_if_ne (tgt := 198) hx hb dX6_line_185 (by decide) (fun c_185 => ?_) (fun c_185 => ?_)
                              · have c_185 := (not_congr (cz_eq_n (by omega))).mp c_185
                                refine lv_goto (tgt := 87) hx hb dX6_line_198 (by decide) ?_
                                exact ih_87 v (nI 1) 0 (hv1) (hvq) (Or.inr ⟨rfl, rfl, by rw [lsq_1]; omega⟩) (by omega) _ _ hP hS ls (lv_sub hl [2, 3, 4, 5, 6, 7, 8, 9, 10, 11, 12, 13, 14, 0] rfl)
                              · have c_185 := (cz_eq_n (by omega)).mp c_185
                                exact absurd c_185 (by omega)
                          · have c_124 := if_p c_124
                            refine lv_aload_n hx hb dX6_line_127 rfl (lv_at hl 0 rfl) ?_
                            refine an_get (ci := 6) (v := .ref (g.2.2 8)) (C := RX6) (T := TX6) (N := 23) hx hb hts iw_X6_line_X6 hown hK hP 0 rfl rfl 11 (by decide) (hts _ fl_X6_line_32) rfl dX6_line_128 ?_
                            refine lv_iload hx hb dX6_line_131 (lv_at hl 7 rfl) ?_
                            refine lv_aload_n hx hb dX6_line_133 rfl (lv_at hl 0 rfl) ?_
                            refine an_get (ci := 6) (v := .ref (g.2.2 5)) (C := RX6) (T := TX6) (N := 23) hx hb hts iw_X6_line_X6 hown hK hP 0 rfl rfl 8 (by decide) (hts _ fl_X6_line_22) rfl dX6_line_134 ?_
                            refine lv_iload hx hb dX6_line_137 (lv_at hl 12 rfl) ?_
                            refine an_iald (f := feet) hx hb hK hP 5 0 rfl rfl (by decide) (by omega) dX6_line_139 ?_
                            refine ln_toi (y := (nI (tn (feet v)))) (hf9.1) ?_
                            refine ln_isub hx hb (by omega) dX6_line_140 ?_
                            refine lv_aload_n hx hb dX6_line_141 rfl (lv_at hl 0 rfl) ?_
                            refine an_get (ci := 6) (v := .ref (g.2.2 6)) (C := RX6) (T := TX6) (N := 23) hx hb hts iw_X6_line_X6 hown hK hP 0 rfl rfl 9 (by decide) (hts _ fl_X6_line_25) rfl dX6_line_142 ?_
                            refine lv_iload hx hb dX6_line_145 (lv_at hl 12 rfl) ?_
                            refine an_iald (f := sort) hx hb hK hP 6 0 rfl rfl (by decide) (by omega) dX6_line_147 ?_
                            refine ln_toi (y := (nI (tn (sort v)))) (hs9.1) ?_
                            refine lv_iload hx hb dX6_line_148 (lv_at hl 9 rfl) ?_
                            refine lv_aload_n hx hb dX6_line_150 rfl (lv_at hl 0 rfl) ?_
                            refine an_get (ci := 6) (v := .ref (g.2.2 10)) (C := RX6) (T := TX6) (N := 23) hx hb hts iw_X6_line_X6 hown hK hP 0 rfl rfl 13 (by decide) (hts _ fl_X6_line_39) rfl dX6_line_151 ?_
                            refine lv_iload hx hb dX6_line_154 (lv_at hl 12 rfl) ?_
                            refine an_iald (f := own37) hx hb hK hP 10 0 rfl rfl (by decide) (by omega) dX6_line_156 ?_
                            refine ln_toi (y := (nI (tn (vsm value letter long1 n9 k9 v)))) ((hp37.1 v hv1).trans ho9.1) ?_
                            refine ln_isub hx hb (by omega) dX6_line_157 ?_
                            refine ro_call (va_runS (As := [.int (nI (f - (tn (feet v)))), .int (nI (tn (sort v))), .int (nI (t2 - (tn (vsm value letter long1 n9 k9 v))))]) (rest := [.ref (g.2.2 8)]) ⟨hx, hb, hml, hown, hts⟩ (c_X6_place l (f - (tn (feet v))) (tn (sort v)) (t2 - (tn (vsm value letter long1 n9 k9 v)))) (va_cwS 3 hts gX6_line_X6_place rfl rfl rfl (by decide +kernel) ⟨Nat.le_of_ble_eq_true rfl, Nat.le_of_ble_eq_true rfl⟩) pre_0 rfl rfl hl.1 rfl (lv_room (Nat.le_of_ble_eq_true rfl)) dX6_line_158 ⟨Nat.zero_le _, Nat.zero_le _⟩) ?_
                            refine an_lald (f := left37) hx hb hK hP 8 1 rfl rfl (by decide) (by omega) dX6_line_161 ?_
                            refine ln_tol (y := (lN (lst feet sort order (owf value letter long1 n9 k9) (lwy feet sort order (owf value letter long1 n9 k9) nv) f b t2 v))) ((hp37.2 _ _ _ (by omega) (by omega) (by omega)).trans (congrArg lN (lst_y (w := lwy feet sort order (owf value letter long1 n9 k9) nv) (fe := feet) (so := sort) (nx := order) (ow := (owf value letter long1 n9 k9)) (f := f) (s := b) (t := t2) (v := v) (by omega) (show tn (vsm value letter long1 n9 k9 v) ≤ t2 by omega) c_124))) ?_
                            refine lv_goto (tgt := 166) hx hb dX6_line_162 (by decide) ?_
                            refine lv_lstore (lv' := [(16, .long (lN (lst feet sort order (owf value letter long1 n9 k9) (lwy feet sort order (owf value letter long1 n9 k9) nv) f b t2 v))), (0, .ref (g.2.2 0)), (1, .int (nI (f0))), (2, .int (nI (y0))), (3, .int (nI (n9))), (4, .int (nI (k9))), (5, .long (lN (num))), (7, .int (nI (i0))), (8, .int (nI (f))), (9, .int (nI (b))), (10, .int (nI (t2))), (11, .long (lN (q2 - lsq feet sort order (owf value letter long1 n9 k9) (lwy feet sort order (owf value letter long1 n9 k9) nv) f b t2 v))), (13, .int (nI (pl))), (14, .int (nI (v))), (15, .int (fd))]) hx hb dX6_line_166 hl (by decide) rfl (fun ls hl => ?_)
                            refine lv_lload hx hb dX6_line_168 (lv_at hl 11 rfl) ?_
                            refine lv_lload hx hb dX6_line_170 (lv_at hl 0 rfl) ?_
                            refine W.lcmp hx hb dX6_line_172 ?_
                            refine lv_if_ge (tgt := 180) hx hb dX6_line_173 (by decide) (fun c_173 => ?_) (fun c_173 => ?_)
                            · have c_173 := (cx_ge (by omega) (by omega)).1 c_173
                              refine lv_iconst (v := (nI (0))) hx hb dX6_line_180 (by decide) ?_
                              refine lv_istore (lv' := [(15, .int (nI (0))), (16, .long (lN (lst feet sort order (owf value letter long1 n9 k9) (lwy feet sort order (owf value letter long1 n9 k9) nv) f b t2 v))), (0, .ref (g.2.2 0)), (1, .int (nI (f0))), (2, .int (nI (y0))), (3, .int (nI (n9))), (4, .int (nI (k9))), (5, .long (lN (num))), (7, .int (nI (i0))), (8, .int (nI (f))), (9, .int (nI (b))), (10, .int (nI (t2))), (11, .long (lN (q2 - lsq feet sort order (owf value letter long1 n9 k9) (lwy feet sort order (owf value letter long1 n9 k9) nv) f b t2 v))), (13, .int (nI (pl))), (14, .int (nI (v)))]) hx hb dX6_line_181 hl (by decide) rfl (fun ls hl => ?_)
                              refine lv_iload hx hb dX6_line_183 (lv_at hl 0 rfl) ?_
                              refine lv_if_ne (tgt := 198) hx hb dX6_line_185 (by decide) (fun c_185 => ?_) (fun c_185 => ?_)
                              · have c_185 := (not_congr (cz_eq_n (by omega))).mp c_185
                                exact absurd c_185 (by omega)
                              · have c_185 := (cz_eq_n (by omega)).mp c_185
                                refine lv_lload hx hb dX6_line_188 (lv_at hl 12 rfl) ?_
                                refine lv_lload hx hb dX6_line_190 (lv_at hl 1 rfl) ?_
                                refine ln_lsub hx hb (by omega) dX6_line_192 ?_
                                refine ln_tol (y := (lN (q2 - lsq feet sort order (owf value letter long1 n9 k9) (lwy feet sort order (owf value letter long1 n9 k9) nv) f b t2 (v + 1)))) (by rw [Nat.sub_sub, ← lsq_1]) ?_
                                refine lv_lstore (lv' := [(11, .long (lN (q2 - lsq feet sort order (owf value letter long1 n9 k9) (lwy feet sort order (owf value letter long1 n9 k9) nv) f b t2 (v + 1)))), (15, .int (nI (0))), (16, .long (lN (lst feet sort order (owf value letter long1 n9 k9) (lwy feet sort order (owf value letter long1 n9 k9) nv) f b t2 v))), (0, .ref (g.2.2 0)), (1, .int (nI (f0))), (2, .int (nI (y0))), (3, .int (nI (n9))), (4, .int (nI (k9))), (5, .long (lN (num))), (7, .int (nI (i0))), (8, .int (nI (f))), (9, .int (nI (b))), (10, .int (nI (t2))), (13, .int (nI (pl))), (14, .int (nI (v)))]) hx hb dX6_line_193 hl (by decide) rfl (fun ls hl => ?_)
                                refine lv_iinc (v := (nI (v + 1))) (lv' := [(14, .int (nI (v + 1))), (11, .long (lN (q2 - lsq feet sort order (owf value letter long1 n9 k9) (lwy feet sort order (owf value letter long1 n9 k9) nv) f b t2 (v + 1)))), (15, .int (nI (0))), (16, .long (lN (lst feet sort order (owf value letter long1 n9 k9) (lwy feet sort order (owf value letter long1 n9 k9) nv) f b t2 v))), (0, .ref (g.2.2 0)), (1, .int (nI (f0))), (2, .int (nI (y0))), (3, .int (nI (n9))), (4, .int (nI (k9))), (5, .long (lN (num))), (7, .int (nI (i0))), (8, .int (nI (f))), (9, .int (nI (b))), (10, .int (nI (t2))), (13, .int (nI (pl)))]) hx hb dX6_line_195 hl (k := 14) rfl (nI_add _ 1) (by decide) rfl (fun ls hl => ?_)
                                refine lv_goto (tgt := 87) hx hb dX6_line_198 (by decide) ?_
                                exact ih_87 (v + 1) (nI 0) 1 (by rcases Nat.lt_or_ge (v + 1) nv with z | z; (exact z); (have z2 := lsq_mono feet sort order (owf value letter long1 n9 k9) (lwy feet sort order (owf value letter long1 n9 k9) nv) f b t2 nv (v + 1) z); (rw [lwy_s hfe (by omega), lsq_1] at z2; omega)) (by rw [lsq_1]; omega) (Or.inl ⟨rfl, rfl⟩) (by omega) _ _ hP hS ls (lv_sub hl [4, 5, 6, 7, 8, 9, 10, 11, 12, 13, 1, 14, 0, 2] rfl)
                            · have c_173 := (cx_ge (by omega) (by omega)).2 c_173
                              refine lv_iconst (v := (nI (1))) hx hb dX6_line_176 (by decide) ?_
                              refine lv_goto (tgt := 181) hx hb dX6_line_177 (by decide) ?_
                              refine lv_istore (lv' := [(15, .int (nI (1))), (16, .long (lN (lst feet sort order (owf value letter long1 n9 k9) (lwy feet sort order (owf value letter long1 n9 k9) nv) f b t2 v))), (0, .ref (g.2.2 0)), (1, .int (nI (f0))), (2, .int (nI (y0))), (3, .int (nI (n9))), (4, .int (nI (k9))), (5, .long (lN (num))), (7, .int (nI (i0))), (8, .int (nI (f))), (9, .int (nI (b))), (10, .int (nI (t2))), (11, .long (lN (q2 - lsq feet sort order (owf value letter long1 n9 k9) (lwy feet sort order (owf value letter long1 n9 k9) nv) f b t2 v))), (13, .int (nI (pl))), (14, .int (nI (v)))]) hx hb dX6_line_181 hl (by decide) rfl (fun ls hl => ?_)
                              refine lv_iload hx hb dX6_line_183 (lv_at hl 0 rfl) ?_
                              refine lv_if_ne (tgt := 198) hx hb dX6_line_185 (by decide) (fun c_185 => ?_) (fun c_185 => ?_)
                              · have c_185 := (not_congr (cz_eq_n (by omega))).mp c_185
                                refine lv_goto (tgt := 87) hx hb dX6_line_198 (by decide) ?_
                                exact ih_87 v (nI 1) 0 (hv1) (hvq) (Or.inr ⟨rfl, rfl, by rw [lsq_1]; omega⟩) (by omega) _ _ hP hS ls (lv_sub hl [2, 3, 4, 5, 6, 7, 8, 9, 10, 11, 12, 13, 14, 0] rfl)
                              · have c_185 := (cz_eq_n (by omega)).mp c_185
                                exact absurd c_185 (by omega)
                exact lp_87 (2 * (nv - (0)) + (1) + 1) 0 (nI 0) 1 (by omega) (Nat.zero_le _) (Or.inl ⟨rfl, rfl⟩) (Nat.lt_succ_self _) _ _ hP hS ls (lv_sub hl [2, 3, 4, 5, 6, 7, 8, 9, 10, 11, 12, 13, 1, 0] rfl)
          exact lp_76 (8 - (0) + (f0) + 1) 0 f0 3 y0 num (by omega) (by omega) (by omega) (by omega) (by omega) (c_54) (rfl) (Nat.lt_succ_self _) _ _ hP hS ls (lv_sub hl [5, 6, 7, 8, 9, 10, 11, 4, 3, 2, 1, 0] rfl)
        · have c_54 := (cx_lt (by first | exact hnum | exact hb9) (by first | exact hnum | exact hb9)).2 c_54
          refine lv_bipush (v := ((-2 : Int32))) hx hb dX6_line_57 (by decide) ?_
          exact wr_iret (own37, left37) hx hb hr hlocks (by rw [if_pos cA]; unfold aLine; rw [e1, e2, e3, e4, e5, if_neg (fun q => absurd q.2.2 (by omega))]) (fun t ht => show va_P g.1 vwCl (wM g trace value draft typed (nI (nv)) letter long1 feet sort order left37 opn own37 other pick parts frm size isYear isNext ways nextWays) t.heap by rw [ht]; exact hP) hS dX6_line_59
      · have c_25 := (not_congr (cz_ge_i)).mp c_25
        refine lv_bipush (v := ((-2 : Int32))) hx hb dX6_line_28 (by decide) ?_
        exact wr_iret (own, left) hx hb hr hlocks (by first | (rw [if_neg c_13]; done) | (rw [if_pos c_13]; unfold aLine; rw [if_neg (by omega)])) (fun t ht => show va_P g.1 vwCl (wM g trace value draft typed (nI (nv)) letter long1 feet sort order left opn own other pick parts frm size isYear isNext ways nextWays) t.heap by rw [ht]; exact hP) hS dX6_line_30
