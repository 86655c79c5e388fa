theorem iw_X5_line_X5 : ∀ w ∈ u_ws RX5 TX5 6, w ∈ wsX5_line := by decide +kernel
theorem fl_X5_line_35 : Cond.fieldLink RX5 35 (TX5 3).1 (TX5 3).2.1 (TX5 3).2.2.1 ∈ wsX5_line := by decide +kernel
set_option maxHeartbeats 200000 in
set_option maxRecDepth 100000 in
theorem c_X5_line (l : Launch) {g : GW} {asked : Int64} {values : Nat → Int32} {bytes : Nat → Int32} {starts : Nat → Int32} {ends : Nat → Int32} {length : Int32} {parts : Int32} {texts : Nat → Int32} {lengths : Nat → Int32} {feet : Nat → Int32} {sorts : Nat → Int32} {nxt : Nat → Int32} {nv : Nat} {sums : Nat → Int32} {oneSums : Nat → Int32} {otherSums : Nat → Int32} {byFeet : Nat → Int64} {kept : Nat → Int64} {over : Int32} {rcount : Int32} {rcust : Int32} {ssums : Nat → Int32} {ways : Nat → Int64} {nextWays : Nat → Int64} {reached : Nat → Int64} {nextReached : Nat → Int64} {found : Int32} {least : Int32} {greatest : Int32} {sz : Nat} (ft : Int32) (y : Int32) (counting : Int32) (custom : Int32) (number : Int64) (ix : Int32) (hnv : nv ≤ 10) (hle : okV lengths nv 1 8) (hfe : okV feet nv 1 3) (hso : okV sorts nv 0 2) (hva : okV values 104 0 1000) (hro : rok values texts lengths feet sorts nxt nv sums kept over rcount rcust) (hd : dW 25 g.2.2) : Met l yX5_line wsX5_line ({ frames := 60, cells := 0, slots := 0, locals := 1200 }) (va_Pc ([.ref (g.2.2 0), .int (ft), .int (y), .int (counting), .int (custom), .long (number), .int (ix)]) (qW g (wX g asked values bytes starts ends length parts texts lengths feet sorts nxt (nI (nv)) sums oneSums otherSums byFeet kept over rcount rcust ssums ways nextWays reached nextReached found least greatest) sz)) (va_Qi (fun (r : Int32) (z : (Nat → Int32) × (Nat → Int64) × Int32 × Int32 × Int32) => r = (if lok ft y counting custom then aLine feet sorts nxt (owf values texts lengths (tn counting) (tn custom)) nv ft y number ix else (-2 : Int32)) ∧ rok values texts lengths feet sorts nxt nv z.1 z.2.1 z.2.2.1 z.2.2.2.1 z.2.2.2.2) (fun (z : (Nat → Int32) × (Nat → Int64) × Int32 × Int32 × Int32) (t : State) => va_P g.1 vwCl (wX g asked values bytes starts ends length parts texts lengths feet sorts nxt (nI (nv)) (z.1) oneSums otherSums byFeet (z.2.1) (z.2.2.1) (z.2.2.2.1) (z.2.2.2.2) ssums ways nextWays reached nextReached found least greatest) t.heap) (aW 25 g.2.2 sz)) 0 0 (aW 25 g.2.2 sz) := by
  refine Met.ofW (cc := cX5_line) (maxL := 8) (ret := (some .int)) (by decide) rfl ?_
  intro p e s m args below meth c s₁ B hml hv
  obtain ⟨rfl, hsz9, hP, hK, hN⟩ := hv
  subst hsz9
  have hx := B.exec
  have hb := B.bytes
  have hr := B.returns
  have hts := atoms_spec (ws := wsX5_line) B.pre
  have hown : s.vm.findClass RX5 = some m.cls := findClass_of_methodNamed B.named
  have hlocks := B.notSynchronized
  have hS : va_S (aW 25 g.2.2 s.heap.size) s.heap s.heap [] := va_S.rf
  have hl := lv_entry ([.ref (g.2.2 0), .int (ft), .int (y), .int (counting), .int (custom), .long (number), .int (ix)]) (n := 8) (Nat.le_of_ble_eq_true rfl)
  rw [lg_entry_eq]
  generalize (lg_sl ([.ref (g.2.2 0), .int (ft), .int (y), .int (counting), .int (custom), .long (number), .int (ix)]) ++ List.replicate (8 - (lg_sl ([.ref (g.2.2 0), .int (ft), .int (y), .int (counting), .int (custom), .long (number), .int (ix)])).length) Slot.unset).toArray = ls at hl ⊢
  have hl : lv_has ls 8 [(0, .ref (g.2.2 0)), (1, .int (ft)), (2, .int (y)), (3, .int (counting)), (4, .int (custom)), (5, .long (number)), (7, .int (ix))] := hl
  have hz0 := lz_toInt
  refine lv_iload_n hx hb dX5_line_0 rfl (lv_at hl 1 rfl) ?_
  refine lv_iload_n hx hb dX5_line_1 rfl (lv_at hl 2 rfl) ?_
  refine lv_iload_n hx hb dX5_line_2 rfl (lv_at hl 3 rfl) ?_
  refine lv_iload hx hb dX5_line_3 (lv_at hl 4 rfl) ?_
  refine ro_call (va_runS (As := [.int (ft), .int (y), .int (counting), .int (custom)]) (rest := []) ⟨hx, hb, hml, hown, hts⟩ (c_X5_isLineAsked l (ft) (y) (counting) (custom)) (va_cwS 4 hts gX5_line_X5_isLineAsked rfl rfl rfl (by decide +kernel) ⟨Nat.le_of_ble_eq_true rfl, Nat.le_of_ble_eq_true rfl⟩) pre_0 rfl rfl hl.1 rfl (lv_room (Nat.le_of_ble_eq_true rfl)) dX5_line_5 ⟨Nat.zero_le _, Nat.zero_le _⟩) ?_
  refine lv_if_eq (tgt := 23) hx hb dX5_line_8 (by decide) (fun c_8 => ?_) (fun c_8 => ?_)
  · have c_8 := if_n c_8
    refine lv_bipush (v := ((-2 : Int32))) hx hb dX5_line_23 (by decide) ?_
    exact wr_iret (sums, kept, over, rcount, rcust) hx hb hr hlocks (⟨by first | (rw [if_neg c_8]; done) | (rw [if_pos c_8]; unfold aLine; rw [if_neg (by omega)]), hro⟩) (fun t ht => show va_P g.1 vwCl (wX g asked values bytes starts ends length parts texts lengths feet sorts nxt (nI (nv)) sums oneSums otherSums byFeet kept over rcount rcust ssums ways nextWays reached nextReached found least greatest) t.heap by rw [ht]; exact hP) hS dX5_line_25
  · have c_8 := if_p c_8
    refine lv_lload hx hb dX5_line_11 (lv_at hl 5 rfl) ?_
    refine lv_lconst (v := (lN (0))) hx hb dX5_line_13 (by decide) ?_
    refine W.lcmp hx hb dX5_line_14 ?_
    refine lv_if_lt (tgt := 23) hx hb dX5_line_15 (by decide) (fun c_15 => ?_) (fun c_15 => ?_)
    · have c_15 := (cw_lt (number) (lN (0))).1 c_15
      refine lv_bipush (v := ((-2 : Int32))) hx hb dX5_line_23 (by decide) ?_
      exact wr_iret (sums, kept, over, rcount, rcust) hx hb hr hlocks (⟨by first | (rw [if_neg c_8]; done) | (rw [if_pos c_8]; unfold aLine; rw [if_neg (by omega)]), hro⟩) (fun t ht => show va_P g.1 vwCl (wX g asked values bytes starts ends length parts texts lengths feet sorts nxt (nI (nv)) sums oneSums otherSums byFeet kept over rcount rcust ssums ways nextWays reached nextReached found least greatest) t.heap by rw [ht]; exact hP) hS dX5_line_25
    · have c_15 := (cw_lt (number) (lN (0))).2 c_15
      refine lv_iload hx hb dX5_line_18 (lv_at hl 6 rfl) ?_
      refine lv_if_ge (tgt := 26) hx hb dX5_line_20 (by decide) (fun c_20 => ?_) (fun c_20 => ?_)
      · have c_20 := (cz_ge_i).mp c_20
        have cA := c_8
        obtain ⟨⟨h11, h12⟩, ⟨h13, h14⟩, ⟨h15, h16⟩, h17, h18⟩ := c_8
        obtain ⟨f0, hf0, rfl⟩ := iN_of (x := ft) (b := 9) (by omega) (by omega)
        obtain ⟨y0, hy0, rfl⟩ := iN_of (x := y) (b := 3001) (by omega) (by omega)
        obtain ⟨n9, hn9, rfl⟩ := iN_of (b := 3) h15 h16
        obtain ⟨k9, hk9, rfl⟩ := iN_of (b := 4) h17 h18
        have e1 : tn (nI f0) = f0 := tn_nI (by omega)
        have e2 : tn (nI y0) = y0 := tn_nI (by omega)
        have e3 : tn (nI n9) = n9 := tn_nI (by omega)
        have e4 : tn (nI k9) = k9 := tn_nI (by omega)
        obtain ⟨num, hnum, rfl⟩ := lN_of (x := number) (by omega)
        have hr9 := fb_rng0 ix
        obtain ⟨i0, hi0, rfl⟩ := iN_of (x := ix) (b := 2 ^ 31) (by omega) (by omega)
        have e5 : (lN num).toInt.toNat = num := by rw [cx_T hnum]; rfl
        have e6 : tn (nI i0) = i0 := tn_nI (by omega)
        have e7 : 0 ≤ (lN num).toInt := by rw [cx_T hnum]; omega
        have e8 : 0 ≤ (nI i0).toInt := by rw [nI_toInt (by omega)]; omega
        refine lv_lload hx hb dX5_line_26 (lv_at hl 5 rfl) ?_
        refine lv_aload_n hx hb dX5_line_28 rfl (lv_at hl 0 rfl) ?_
        refine an_get (ci := 5) (v := .ref (g.2.2 13)) (C := RX5) (T := TX5) (N := 6) hx hb hts iw_X5_line_X5 hown hK hP 0 rfl rfl 3 (by decide) (hts _ fl_X5_line_35) rfl dX5_line_29 ?_
        refine lv_iload_n hx hb dX5_line_32 rfl (lv_at hl 1 rfl) ?_
        refine lv_iload_n hx hb dX5_line_33 rfl (lv_at hl 2 rfl) ?_
        refine lv_iload_n hx hb dX5_line_34 rfl (lv_at hl 3 rfl) ?_
        refine lv_iload hx hb dX5_line_35 (lv_at hl 4 rfl) ?_
        refine wr_calll (w := (fun (z : (Nat → Int32) × (Nat → Int64) × Int32 × Int32 × Int32) => (wX g asked values bytes starts ends length parts texts lengths feet sorts nxt (nI (nv)) (z.1) oneSums otherSums byFeet (z.2.1) (z.2.2.1) (z.2.2.2.1) (z.2.2.2.2) ssums ways nextWays reached nextReached found least greatest))) (va_runV (As := [.int (nI (f0)), .int (nI (y0)), .int (nI (n9)), .int (nI (k9))]) (rest := [.long (lN (num))]) ⟨hx, hb, hml, hown, hts⟩ (c_X3_ofSum l (g := g) (asked := asked) (values := values) (bytes := bytes) (starts := starts) (ends := ends) (length := length) (parts := parts) (texts := texts) (lengths := lengths) (feet := feet) (sorts := sorts) (nxt := nxt) (nv := nv) (sums := sums) (oneSums := oneSums) (otherSums := otherSums) (byFeet := byFeet) (kept := kept) (over := over) (rcount := rcount) (rcust := rcust) (ssums := ssums) (ways := ways) (nextWays := nextWays) (reached := reached) (nextReached := nextReached) (found := found) (least := least) (greatest := greatest) (sz := _) (f0) (y0) (n9) (k9) (by omega) (by omega) hn9 hk9 hnv hle hfe hso hva hro hd) (cwV 4 hts gX5_line_X3_ofSum rfl rfl rfl (by decide +kernel) ⟨Nat.le_of_ble_eq_true rfl, Nat.le_of_ble_eq_true rfl⟩) (pre_V qW_bl (va_recv hK hP (ci := 3) (q0 := 13) rfl rfl) (fun U hU hW => ⟨by rw [hU], pW_of hP hK hN hU hW⟩)) rfl rfl hl.1 rfl (lv_room (Nat.le_of_ble_eq_true rfl)) dX5_line_37 ⟨Nat.zero_le _, Nat.zero_le _⟩) hS (fun r37 z37 H locs hp37 hP hS => ?_)
        obtain ⟨sums37, kept37, over37, rcount37, rcust37⟩ := z37
        try dsimp only at hp37
        have hP : va_P g.1 vwCl (wX g asked values bytes starts ends length parts texts lengths feet sorts nxt (nI (nv)) sums37 oneSums otherSums byFeet kept37 over37 rcount37 rcust37 ssums ways nextWays reached nextReached found least greatest) H := hP
        obtain ⟨hq0, hq1, hq2, hq3, hq4, hq5⟩ := hp37
        have hrk : rok values texts lengths feet sorts nxt nv sums37 kept37 over37 rcount37 rcust37 := Or.inr ⟨hq3, n9, k9, hn9, hk9, hq4, hq5, hq1, hq2⟩
        have hsu : ∀ v, v < nv → sums37 v = nI ((owf values texts lengths n9 k9) v) ∧ (owf values texts lengths n9 k9) v ≤ 8000 := fun v hv => ⟨(hq1 v hv).trans (vsm_ok hva hk9 hle hv).1, (vsm_ok (tx := texts) (n := n9) hva hk9 hle hv).2⟩
        have hb9 : lwy feet sorts nxt (owf values texts lengths n9 k9) nv f0 3 y0 < 2 ^ 63 := Nat.lt_trans (lwy_lt hnv hfe (by omega)) (by decide)
        refine ln_tol (y := (lN (lwy feet sorts nxt (owf values texts lengths n9 k9) nv f0 3 y0))) (hq0) ?_
        refine W.lcmp hx hb dX5_line_40 ?_
        refine lv_if_lt (tgt := 47) hx hb dX5_line_41 (by decide) (fun c_41 => ?_) (fun c_41 => ?_)
        · have c_41 := (cx_lt (by first | exact hnum | exact hb9) (by first | exact hnum | exact hb9)).1 c_41
          refine lv_aload_n hx hb dX5_line_47 rfl (lv_at hl 0 rfl) ?_
          refine an_get (ci := 5) (v := .ref (g.2.2 13)) (C := RX5) (T := TX5) (N := 6) hx hb hts iw_X5_line_X5 hown hK hP 0 rfl rfl 3 (by decide) (hts _ fl_X5_line_35) rfl dX5_line_48 ?_
          refine lv_iload_n hx hb dX5_line_51 rfl (lv_at hl 1 rfl) ?_
          refine lv_iload_n hx hb dX5_line_52 rfl (lv_at hl 2 rfl) ?_
          refine lv_lload hx hb dX5_line_53 (lv_at hl 5 rfl) ?_
          refine lv_iload hx hb dX5_line_55 (lv_at hl 6 rfl) ?_
          refine wr_calli (w := (fun (z : (Nat → Int64)) => (wX g asked values bytes starts ends length parts texts lengths feet sorts nxt (nI (nv)) sums37 oneSums otherSums byFeet z over37 rcount37 rcust37 ssums ways nextWays reached nextReached found least greatest))) (va_runV (As := [.int (nI (f0)), .int (nI (y0)), .long (lN (num)), .int (nI (i0))]) (rest := []) ⟨hx, hb, hml, hown, hts⟩ (c_X3_vocableAt l (g := g) (asked := asked) (values := values) (bytes := bytes) (starts := starts) (ends := ends) (length := length) (parts := parts) (texts := texts) (lengths := lengths) (feet := feet) (sorts := sorts) (nxt := nxt) (nv := nv) (sums := sums37) (oneSums := oneSums) (otherSums := otherSums) (byFeet := byFeet) (kept := kept37) (over := over37) (rcount := rcount37) (rcust := rcust37) (ssums := ssums) (ways := ways) (nextWays := nextWays) (reached := reached) (nextReached := nextReached) (found := found) (least := least) (greatest := greatest) (sz := _) (f0) (y0) (num) (i0) (by omega) (by omega) hi0 (owf values texts lengths n9 k9) hnv hfe hso hsu hq2 c_41 hd) (cwV 4 hts gX5_line_X3_vocableAt rfl rfl rfl (by decide +kernel) ⟨Nat.le_of_ble_eq_true rfl, Nat.le_of_ble_eq_true rfl⟩) (pre_V qW_bl (va_recv hK hP (ci := 3) (q0 := 13) rfl rfl) (fun U hU hW => ⟨by rw [hU], pW_of hP hK hN hU hW⟩)) rfl rfl hl.1 rfl (lv_room (Nat.le_of_ble_eq_true rfl)) dX5_line_57 ⟨Nat.zero_le _, Nat.zero_le _⟩) hS (fun r57 kept57 H locs hp57 hP hS => ?_)
          have hP : va_P g.1 vwCl (wX g asked values bytes starts ends length parts texts lengths feet sorts nxt (nI (nv)) sums37 oneSums otherSums byFeet kept57 over37 rcount37 rcust37 ssums ways nextWays reached nextReached found least greatest) H := hP
          exact wr_iret (sums37, kept57, over37, rcount37, rcust37) hx hb hr hlocks (⟨by rw [if_pos cA]; unfold aLine; rw [e1, e2, e3, e4, e5, e6, if_pos ⟨e7, e8, c_41⟩]; exact hp57.1, Or.inr ⟨hq3, n9, k9, hn9, hk9, hq4, hq5, hq1, hp57.2⟩⟩) (fun t ht => show va_P g.1 vwCl (wX g asked values bytes starts ends length parts texts lengths feet sorts nxt (nI (nv)) sums37 oneSums otherSums byFeet kept57 over37 rcount37 rcust37 ssums ways nextWays reached nextReached found least greatest) t.heap by rw [ht]; exact hP) hS dX5_line_60
        · have c_41 := (cx_lt (by first | exact hnum | exact hb9) (by first | exact hnum | exact hb9)).2 c_41
          refine lv_bipush (v := ((-2 : Int32))) hx hb dX5_line_44 (by decide) ?_
          exact wr_iret (sums37, kept37, over37, rcount37, rcust37) hx hb hr hlocks (⟨by rw [if_pos cA]; unfold aLine; rw [e1, e2, e3, e4, e5, if_neg (fun q => absurd q.2.2 (by omega))], hrk⟩) (fun t ht => show va_P g.1 vwCl (wX g asked values bytes starts ends length parts texts lengths feet sorts nxt (nI (nv)) sums37 oneSums otherSums byFeet kept37 over37 rcount37 rcust37 ssums ways nextWays reached nextReached found least greatest) t.heap by rw [ht]; exact hP) hS dX5_line_46
      · have c_20 := (not_congr (cz_ge_i)).mp c_20
        refine lv_bipush (v := ((-2 : Int32))) hx hb dX5_line_23 (by decide) ?_
        exact wr_iret (sums, kept, over, rcount, rcust) hx hb hr hlocks (⟨by first | (rw [if_neg c_8]; done) | (rw [if_pos c_8]; unfold aLine; rw [if_neg (by omega)]), hro⟩) (fun t ht => show va_P g.1 vwCl (wX g asked values bytes starts ends length parts texts lengths feet sorts nxt (nI (nv)) sums oneSums otherSums byFeet kept over rcount rcust ssums ways nextWays reached nextReached found least greatest) t.heap by rw [ht]; exact hP) hS dX5_line_25
