theorem iw_X3_doubleWaysOn_X3 : ∀ w ∈ u_ws RX3 TX3 10, w ∈ wsX3_doubleWaysOn := by decide +kernel
theorem iw_X3_doubleWaysOn_X4 : ∀ w ∈ u_ws RX4 TX4 6, w ∈ wsX3_doubleWaysOn := by decide +kernel
theorem fl_X3_doubleWaysOn_15 : Cond.fieldLink RX3 15 (TX3 3).1 (TX3 3).2.1 (TX3 3).2.2.1 ∈ wsX3_doubleWaysOn := by decide +kernel
theorem fl_X3_doubleWaysOn_18 : Cond.fieldLink RX3 18 (TX3 4).1 (TX3 4).2.1 (TX3 4).2.2.1 ∈ wsX3_doubleWaysOn := by decide +kernel
theorem fl_X3_doubleWaysOn_32 : Cond.fieldLink RX3 32 (TX3 0).1 (TX3 0).2.1 (TX3 0).2.2.1 ∈ wsX3_doubleWaysOn := by decide +kernel
theorem fl_X3_doubleWaysOn_44 : Cond.fieldLink RX3 44 (TX4 5).1 (TX4 5).2.1 (TX4 5).2.2.1 ∈ wsX3_doubleWaysOn := by decide +kernel
theorem fl_X3_doubleWaysOn_50 : Cond.fieldLink RX3 50 (TX4 2).1 (TX4 2).2.1 (TX4 2).2.2.1 ∈ wsX3_doubleWaysOn := by decide +kernel
theorem fl_X3_doubleWaysOn_57 : Cond.fieldLink RX3 57 (TX4 3).1 (TX4 3).2.1 (TX4 3).2.2.1 ∈ wsX3_doubleWaysOn := by decide +kernel
set_option maxHeartbeats 200000 in
set_option maxRecDepth 100000 in
theorem c_X3_doubleWaysOn_s (l : Launch) {g : GW} {asked : Int64} {values : Nat → Int32} {bytes : Nat → Int32} {starts : Nat → Int32} {ends : Nat → Int32} {length : Int32} {parts : Int32} {texts : Nat → Int32} {lengths : Nat → Int32} {feet : Nat → Int32} {sorts : Nat → Int32} {nxt : Nat → Int32} {nv : Nat} {sums : Nat → Int32} {oneSums : Nat → Int32} {otherSums : Nat → Int32} {byFeet : Nat → Int64} {kept : Nat → Int64} {over : Int32} {rcount : Int32} {rcust : Int32} {ssums : Nat → Int32} {ways : Nat → Int64} {nextWays : Nat → Int64} {reached : Nat → Int64} {nextReached : Nat → Int64} {found : Int32} {least : Int32} {greatest : Int32} (behind : Nat) (ft : Int32) (y : Int32) (z : Int32) (o1 o2 : Nat → Nat) (dd : Nat) (hbe : behind < 4) (hdd : ft.toInt < (dd : Int)) (hft : ft.toInt ≤ 5) (hy : y.toInt ≤ 3000) (hz : z.toInt ≤ 3000) (hnv : nv ≤ 10) (hfe : okV feet nv 1 3) (hso : okV sorts nv 0 2) (hs1 : ∀ v, v < nv → oneSums v = nI (o1 v) ∧ o1 v ≤ 8000) (hs2 : ∀ v, v < nv → otherSums v = nI (o2 v) ∧ o2 v ≤ 8000) (IH : ∀ d2, d2 < dd → KD l g asked values bytes starts ends length parts texts lengths feet sorts nxt sums oneSums otherSums byFeet kept over rcount rcust ssums ways nextWays reached nextReached found least greatest nv o1 o2 d2) : Met l yX3_doubleWaysOn wsX3_doubleWaysOn ({ frames := dd + 1, cells := 0, slots := 0, locals := 60 * dd + 60 }) (va_Pc ([.ref (g.2.2 13), .int (nI (behind)), .int (ft), .int (y), .int (z)]) (pW g (wX g asked values bytes starts ends length parts texts lengths feet sorts nxt (nI (nv)) sums oneSums otherSums byFeet kept over rcount rcust ssums ways nextWays reached nextReached found least greatest))) (ro_Q (.long (lN (dwz (dwy feet sorts nxt o1 o2 nv) behind ft y z)))) 0 0 (fun _ => False) := by
  refine Met.ofW (cc := cX3_doubleWaysOn) (maxL := 8) (ret := (some .long)) (by decide) rfl ?_
  intro p e s m args below meth c s₁ B hml hv
  obtain ⟨rfl, hP, hK, hN⟩ := hv
  have hx := B.exec
  have hb := B.bytes
  have hr := B.returns
  have hts := atoms_spec (ws := wsX3_doubleWaysOn) B.pre
  have hown : s.vm.findClass RX3 = some m.cls := findClass_of_methodNamed B.named
  have hlocks := B.notSynchronized
  have hl := lv_entry ([.ref (g.2.2 13), .int (nI (behind)), .int (ft), .int (y), .int (z)]) (n := 8) (Nat.le_of_ble_eq_true rfl)
  rw [lg_entry_eq]
  generalize (lg_sl ([.ref (g.2.2 13), .int (nI (behind)), .int (ft), .int (y), .int (z)]) ++ List.replicate (8 - (lg_sl ([.ref (g.2.2 13), .int (nI (behind)), .int (ft), .int (y), .int (z)])).length) Slot.unset).toArray = ls at hl ⊢
  have hl : lv_has ls 8 [(0, .ref (g.2.2 13)), (1, .int (nI (behind))), (2, .int (ft)), (3, .int (y)), (4, .int (z))] := hl
  refine lv_iload_n hx hb dX3_doubleWaysOn_0 rfl (lv_at hl 2 rfl) ?_
  refine lv_iconst (v := (nI (1))) hx hb dX3_doubleWaysOn_1 (by decide) ?_
  refine lv_icmp_lt (tgt := 19) hx hb dX3_doubleWaysOn_2 (by decide) (fun c_2 => ?_) (fun c_2 => ?_)
  · have c_2 := (cv_lt_in (by omega)).mp c_2
    refine lv_iload_n hx hb dX3_doubleWaysOn_19 rfl (lv_at hl 2 rfl) ?_
    refine lv_if_ne (tgt := 36) hx hb dX3_doubleWaysOn_20 (by decide) (fun c_20 => ?_) (fun c_20 => ?_)
    · have c_20 := (not_congr (cz_eq_i)).mp c_20
      refine lv_lconst (v := (lN (0))) hx hb dX3_doubleWaysOn_36 (by decide) ?_
      exact ro_lret hx hb hr hlocks (by congr 1; unfold dwz; by_cases q9 : 0 ≤ ft.toInt ∧ 0 ≤ y.toInt ∧ 0 ≤ z.toInt; (rw [if_pos q9, show tn ft = 0 by unfold tn; omega, dwy_0, if_neg (by unfold tn; omega)]); rw [if_neg q9]) dX3_doubleWaysOn_37
    · have c_20 := (cz_eq_i).mp c_20
      refine lv_iload_n hx hb dX3_doubleWaysOn_23 rfl (lv_at hl 3 rfl) ?_
      refine lv_if_ne (tgt := 36) hx hb dX3_doubleWaysOn_24 (by decide) (fun c_24 => ?_) (fun c_24 => ?_)
      · have c_24 := (not_congr (cz_eq_i)).mp c_24
        refine lv_lconst (v := (lN (0))) hx hb dX3_doubleWaysOn_36 (by decide) ?_
        exact ro_lret hx hb hr hlocks (by congr 1; unfold dwz; by_cases q9 : 0 ≤ ft.toInt ∧ 0 ≤ y.toInt ∧ 0 ≤ z.toInt; (rw [if_pos q9, show tn ft = 0 by unfold tn; omega, dwy_0, if_neg (by unfold tn; omega)]); rw [if_neg q9]) dX3_doubleWaysOn_37
      · have c_24 := (cz_eq_i).mp c_24
        refine lv_iload hx hb dX3_doubleWaysOn_27 (lv_at hl 4 rfl) ?_
        refine lv_if_ne (tgt := 36) hx hb dX3_doubleWaysOn_29 (by decide) (fun c_29 => ?_) (fun c_29 => ?_)
        · have c_29 := (not_congr (cz_eq_i)).mp c_29
          refine lv_lconst (v := (lN (0))) hx hb dX3_doubleWaysOn_36 (by decide) ?_
          exact ro_lret hx hb hr hlocks (by congr 1; unfold dwz; by_cases q9 : 0 ≤ ft.toInt ∧ 0 ≤ y.toInt ∧ 0 ≤ z.toInt; (rw [if_pos q9, show tn ft = 0 by unfold tn; omega, dwy_0, if_neg (by unfold tn; omega)]); rw [if_neg q9]) dX3_doubleWaysOn_37
        · have c_29 := (cz_eq_i).mp c_29
          refine lv_lconst (v := (lN (1))) hx hb dX3_doubleWaysOn_32 (by decide) ?_
          refine lv_goto (tgt := 37) hx hb dX3_doubleWaysOn_33 (by decide) ?_
          exact ro_lret hx hb hr hlocks (by have h1 : ft = nI 0 := (cv_eq_in (by decide)).mpr (by omega); have h2 : y = nI 0 := (cv_eq_in (by decide)).mpr (by omega); have h3 : z = nI 0 := (cv_eq_in (by decide)).mpr (by omega); rw [h1, h2, h3, dwz_n (by decide) (by decide) (by decide)]; rfl) dX3_doubleWaysOn_37
  · have c_2 := (not_congr (cv_lt_in (by omega))).mp c_2
    refine lv_iload_n hx hb dX3_doubleWaysOn_5 rfl (lv_at hl 2 rfl) ?_
    refine lv_iconst (v := (nI (5))) hx hb dX3_doubleWaysOn_6 (by decide) ?_
    refine lv_icmp_gt (tgt := 19) hx hb dX3_doubleWaysOn_7 (by decide) (fun c_7 => ?_) (fun c_7 => ?_)
    · have c_7 := (cv_lt_ni (by omega)).mp c_7
      refine lv_iload_n hx hb dX3_doubleWaysOn_19 rfl (lv_at hl 2 rfl) ?_
      refine lv_if_ne (tgt := 36) hx hb dX3_doubleWaysOn_20 (by decide) (fun c_20 => ?_) (fun c_20 => ?_)
      · have c_20 := (not_congr (cz_eq_i)).mp c_20
        refine lv_lconst (v := (lN (0))) hx hb dX3_doubleWaysOn_36 (by decide) ?_
        exact ro_lret hx hb hr hlocks (by congr 1; unfold dwz; by_cases q9 : 0 ≤ ft.toInt ∧ 0 ≤ y.toInt ∧ 0 ≤ z.toInt; (rw [if_pos q9, show tn ft = 0 by unfold tn; omega, dwy_0, if_neg (by unfold tn; omega)]); rw [if_neg q9]) dX3_doubleWaysOn_37
      · have c_20 := (cz_eq_i).mp c_20
        refine lv_iload_n hx hb dX3_doubleWaysOn_23 rfl (lv_at hl 3 rfl) ?_
        refine lv_if_ne (tgt := 36) hx hb dX3_doubleWaysOn_24 (by decide) (fun c_24 => ?_) (fun c_24 => ?_)
        · have c_24 := (not_congr (cz_eq_i)).mp c_24
          refine lv_lconst (v := (lN (0))) hx hb dX3_doubleWaysOn_36 (by decide) ?_
          exact ro_lret hx hb hr hlocks (by congr 1; unfold dwz; by_cases q9 : 0 ≤ ft.toInt ∧ 0 ≤ y.toInt ∧ 0 ≤ z.toInt; (rw [if_pos q9, show tn ft = 0 by unfold tn; omega, dwy_0, if_neg (by unfold tn; omega)]); rw [if_neg q9]) dX3_doubleWaysOn_37
        · have c_24 := (cz_eq_i).mp c_24
          refine lv_iload hx hb dX3_doubleWaysOn_27 (lv_at hl 4 rfl) ?_
          refine lv_if_ne (tgt := 36) hx hb dX3_doubleWaysOn_29 (by decide) (fun c_29 => ?_) (fun c_29 => ?_)
          · have c_29 := (not_congr (cz_eq_i)).mp c_29
            refine lv_lconst (v := (lN (0))) hx hb dX3_doubleWaysOn_36 (by decide) ?_
            exact ro_lret hx hb hr hlocks (by congr 1; unfold dwz; by_cases q9 : 0 ≤ ft.toInt ∧ 0 ≤ y.toInt ∧ 0 ≤ z.toInt; (rw [if_pos q9, show tn ft = 0 by unfold tn; omega, dwy_0, if_neg (by unfold tn; omega)]); rw [if_neg q9]) dX3_doubleWaysOn_37
          · have c_29 := (cz_eq_i).mp c_29
            refine lv_lconst (v := (lN (1))) hx hb dX3_doubleWaysOn_32 (by decide) ?_
            refine lv_goto (tgt := 37) hx hb dX3_doubleWaysOn_33 (by decide) ?_
            exact ro_lret hx hb hr hlocks (by have h1 : ft = nI 0 := (cv_eq_in (by decide)).mpr (by omega); have h2 : y = nI 0 := (cv_eq_in (by decide)).mpr (by omega); have h3 : z = nI 0 := (cv_eq_in (by decide)).mpr (by omega); rw [h1, h2, h3, dwz_n (by decide) (by decide) (by decide)]; rfl) dX3_doubleWaysOn_37
    · have c_7 := (not_congr (cv_lt_ni (by omega))).mp c_7
      refine lv_iload_n hx hb dX3_doubleWaysOn_10 rfl (lv_at hl 3 rfl) ?_
      refine lv_if_lt (tgt := 19) hx hb dX3_doubleWaysOn_11 (by decide) (fun c_11 => ?_) (fun c_11 => ?_)
      · have c_11 := (cz_lt_i).mp c_11
        refine lv_iload_n hx hb dX3_doubleWaysOn_19 rfl (lv_at hl 2 rfl) ?_
        refine lv_if_ne (tgt := 36) hx hb dX3_doubleWaysOn_20 (by decide) (fun c_20 => ?_) (fun c_20 => ?_)
        · have c_20 := (not_congr (cz_eq_i)).mp c_20
          refine lv_lconst (v := (lN (0))) hx hb dX3_doubleWaysOn_36 (by decide) ?_
          exact ro_lret hx hb hr hlocks (by congr 1; unfold dwz; by_cases q9 : 0 ≤ ft.toInt ∧ 0 ≤ y.toInt ∧ 0 ≤ z.toInt; (rw [if_pos q9, show tn ft = 0 by unfold tn; omega, dwy_0, if_neg (by unfold tn; omega)]); rw [if_neg q9]) dX3_doubleWaysOn_37
        · have c_20 := (cz_eq_i).mp c_20
          refine lv_iload_n hx hb dX3_doubleWaysOn_23 rfl (lv_at hl 3 rfl) ?_
          refine lv_if_ne (tgt := 36) hx hb dX3_doubleWaysOn_24 (by decide) (fun c_24 => ?_) (fun c_24 => ?_)
          · have c_24 := (not_congr (cz_eq_i)).mp c_24
            refine lv_lconst (v := (lN (0))) hx hb dX3_doubleWaysOn_36 (by decide) ?_
            exact ro_lret hx hb hr hlocks (by congr 1; unfold dwz; by_cases q9 : 0 ≤ ft.toInt ∧ 0 ≤ y.toInt ∧ 0 ≤ z.toInt; (rw [if_pos q9, show tn ft = 0 by unfold tn; omega, dwy_0, if_neg (by unfold tn; omega)]); rw [if_neg q9]) dX3_doubleWaysOn_37
          · have c_24 := (cz_eq_i).mp c_24
            refine lv_iload hx hb dX3_doubleWaysOn_27 (lv_at hl 4 rfl) ?_
            refine lv_if_ne (tgt := 36) hx hb dX3_doubleWaysOn_29 (by decide) (fun c_29 => ?_) (fun c_29 => ?_)
            · have c_29 := (not_congr (cz_eq_i)).mp c_29
              refine lv_lconst (v := (lN (0))) hx hb dX3_doubleWaysOn_36 (by decide) ?_
              exact ro_lret hx hb hr hlocks (by congr 1; unfold dwz; by_cases q9 : 0 ≤ ft.toInt ∧ 0 ≤ y.toInt ∧ 0 ≤ z.toInt; (rw [if_pos q9, show tn ft = 0 by unfold tn; omega, dwy_0, if_neg (by unfold tn; omega)]); rw [if_neg q9]) dX3_doubleWaysOn_37
            · have c_29 := (cz_eq_i).mp c_29
              refine lv_lconst (v := (lN (1))) hx hb dX3_doubleWaysOn_32 (by decide) ?_
              refine lv_goto (tgt := 37) hx hb dX3_doubleWaysOn_33 (by decide) ?_
              exact ro_lret hx hb hr hlocks (by have h1 : ft = nI 0 := (cv_eq_in (by decide)).mpr (by omega); have h2 : y = nI 0 := (cv_eq_in (by decide)).mpr (by omega); have h3 : z = nI 0 := (cv_eq_in (by decide)).mpr (by omega); rw [h1, h2, h3, dwz_n (by decide) (by decide) (by decide)]; rfl) dX3_doubleWaysOn_37
      · have c_11 := (not_congr (cz_lt_i)).mp c_11
        refine lv_iload hx hb dX3_doubleWaysOn_14 (lv_at hl 4 rfl) ?_
        refine lv_if_ge (tgt := 38) hx hb dX3_doubleWaysOn_16 (by decide) (fun c_16 => ?_) (fun c_16 => ?_)
        · have c_16 := (cz_ge_i).mp c_16
          obtain ⟨f0, hf0, rfl⟩ := iN_of (x := ft) (b := 6) (by omega) (by omega)
          obtain ⟨y0, hy0, rfl⟩ := iN_of (x := y) (b := 3001) (by omega) (by omega)
          obtain ⟨z0, hz0, rfl⟩ := iN_of (x := z) (b := 3001) (by omega) (by omega)
          have ef : (nI f0).toInt = (f0 : Int) := nI_toInt (by omega)
          refine lv_lconst (v := (lN (0))) hx hb dX3_doubleWaysOn_38 (by decide) ?_
          refine lv_lstore (lv' := [(5, .long (lN (0))), (0, .ref (g.2.2 13)), (1, .int (nI (behind))), (2, .int (nI (f0))), (3, .int (nI (y0))), (4, .int (nI (z0)))]) hx hb dX3_doubleWaysOn_39 hl (by decide) rfl (fun ls hl => ?_)
          refine lv_iconst (v := (nI (0))) hx hb dX3_doubleWaysOn_41 (by decide) ?_
          refine lv_istore (lv' := [(7, .int (nI (0))), (5, .long (lN (0))), (0, .ref (g.2.2 13)), (1, .int (nI (behind))), (2, .int (nI (f0))), (3, .int (nI (y0))), (4, .int (nI (z0)))]) hx hb dX3_doubleWaysOn_42 hl (by decide) rfl (fun ls hl => ?_)
          have lp_44 : ∀ (n : Nat) (i : Nat), (i ≤ nv) → nv - i < n → ∀ (ls : Array Slot), lv_has ls 8 [(0, .ref (g.2.2 13)), (1, .int (nI (behind))), (2, .int (nI (f0))), (3, .int (nI (y0))), (4, .int (nI (z0))), (5, .long (lN (dsq feet sorts nxt o1 o2 (dwy feet sorts nxt o1 o2 nv) f0 behind y0 z0 i))), (7, .int (nI (i)))] → W p l e (headSpec wsX3_doubleWaysOn ({ frames := dd + 1, cells := 0, slots := 0, locals := 60 * dd + 60 })).room s m (([.ref (g.2.2 13), .int (nI (behind)), .int ((nI (f0))), .int ((nI (y0))), .int ((nI (z0)))] : List Value).toArray) below meth c s.heap [] 0 0 (MQ below (ro_Q (.long (lN (dwz (dwy feet sorts nxt o1 o2 nv) behind (nI (f0)) (nI (y0)) (nI (z0)))))) (([.ref (g.2.2 13), .int (nI (behind)), .int ((nI (f0))), .int ((nI (y0))), .int ((nI (z0)))] : List Value).toArray) s 0 0 (fun _ => False)) (F0 m 44 ls []) := by
            intro n
            induction n with
            | zero => intro i hi hm; exact absurd hm (Nat.not_lt_zero _)
            | succ n ih_44 =>
              intro i hi hm_44 ls hl
              refine lv_iload hx hb dX3_doubleWaysOn_44 (lv_at hl 6 rfl) ?_
              refine lv_aload_n hx hb dX3_doubleWaysOn_46 rfl (lv_at hl 0 rfl) ?_
              refine an_get (ci := 3) (v := .ref (g.2.2 7)) (C := RX3) (T := TX3) (N := 10) hx hb hts iw_X3_doubleWaysOn_X3 hown hK hP 13 rfl rfl 0 (by decide) (hts _ fl_X3_doubleWaysOn_32) rfl dX3_doubleWaysOn_47 ?_
              refine an_get (ci := 4) (v := .int (nI (nv))) (C := RX4) (T := TX4) (N := 6) hx hb hts iw_X3_doubleWaysOn_X4 hown hK hP 7 rfl rfl 5 (by decide) (hts _ fl_X3_doubleWaysOn_44) rfl dX3_doubleWaysOn_50 ?_
              refine lv_icmp_ge (tgt := 125) hx hb dX3_doubleWaysOn_53 (by decide) (fun c_53 => ?_) (fun c_53 => ?_)
              · have c_53 := (cv_le_nn (by omega) (by omega)).mp c_53
                refine lv_lload hx hb dX3_doubleWaysOn_125 (lv_at hl 5 rfl) ?_
                exact ro_lret hx hb hr hlocks (by rw [dwz_n (by omega) (by omega) (by omega), ← dwy_s hfe (by omega), show nv = i by omega]) dX3_doubleWaysOn_127
              · have c_53 := (not_congr (cv_le_nn (by omega) (by omega))).mp c_53
                refine lv_aload_n hx hb dX3_doubleWaysOn_56 rfl (lv_at hl 0 rfl) ?_
                refine an_get (ci := 3) (v := .ref (g.2.2 7)) (C := RX3) (T := TX3) (N := 10) hx hb hts iw_X3_doubleWaysOn_X3 hown hK hP 13 rfl rfl 0 (by decide) (hts _ fl_X3_doubleWaysOn_32) rfl dX3_doubleWaysOn_57 ?_
                refine lv_iload_n hx hb dX3_doubleWaysOn_60 rfl (lv_at hl 1 rfl) ?_
                refine lv_iload hx hb dX3_doubleWaysOn_61 (lv_at hl 6 rfl) ?_
                refine ro_call (va_runV (As := [.int (nI (behind)), .int (nI (i))]) (rest := []) ⟨hx, hb, hml, hown, hts⟩ (c_X4_mayCome l (g := g) (asked := asked) (values := values) (bytes := bytes) (starts := starts) (ends := ends) (length := length) (parts := parts) (texts := texts) (lengths := lengths) (feet := feet) (sorts := sorts) (nxt := nxt) (size := nI (nv)) (sums := sums) (oneSums := oneSums) (otherSums := otherSums) (byFeet := byFeet) (kept := kept) (over := over) (rcount := rcount) (rcust := rcust) (ssums := ssums) (ways := ways) (nextWays := nextWays) (reached := reached) (nextReached := nextReached) (found := found) (least := least) (greatest := greatest) (behind) (i) hbe (by omega)) (cwV 2 hts gX3_doubleWaysOn_X4_mayCome rfl rfl rfl (by decide +kernel) ⟨show 0 + 1 ≤ dd + 1 by omega, show 8 + (3 + 11) + 0 ≤ 60 * dd + 60 by omega⟩) (pre_V pW_bl (va_recv hK hP (ci := 4) (q0 := 7) rfl rfl) (fun U hU hW => pW_of hP hK hN hU hW)) rfl rfl hl.1 rfl (lv_room (Nat.le_of_ble_eq_true rfl)) dX3_doubleWaysOn_63 ⟨Nat.zero_le _, Nat.zero_le _⟩) ?_
                refine lv_if_eq (tgt := 119) hx hb dX3_doubleWaysOn_66 (by decide) (fun c_66 => ?_) (fun c_66 => ?_)
                · have c_66 := if_n c_66
                  refine lv_iinc (v := (nI (i + 1))) (lv' := [(7, .int (nI (i + 1))), (0, .ref (g.2.2 13)), (1, .int (nI (behind))), (2, .int (nI (f0))), (3, .int (nI (y0))), (4, .int (nI (z0))), (5, .long (lN (dsq feet sorts nxt o1 o2 (dwy feet sorts nxt o1 o2 nv) f0 behind y0 z0 i)))]) hx hb dX3_doubleWaysOn_119 hl (k := 6) rfl (nI_add _ 1) (by decide) rfl (fun ls hl => ?_)
                  refine lv_goto (tgt := 44) hx hb dX3_doubleWaysOn_122 (by decide) ?_
                  rw [dsq_n c_66] at hl
                  exact ih_44 (i + 1) (by omega) (by omega) ls (lv_sub hl [1, 2, 3, 4, 5, 6, 0] rfl)
                · have c_66 := if_p c_66
                  have hf9 := hfe i (by omega)
                  have hs9 := hso i (by omega)
                  have h19 := hs1 i (by omega)
                  have h29 := hs2 i (by omega)
                  have g1 := pk_sub_toInt (a := f0) (b := tn (feet i)) (by omega) (by omega)
                  have g2 := pk_sub_toInt (a := y0) (b := o1 i) (by omega) (by omega)
                  have g3 := pk_sub_toInt (a := z0) (b := o2 i) (by omega) (by omega)
                  refine lv_lload hx hb dX3_doubleWaysOn_69 (lv_at hl 5 rfl) ?_
                  refine lv_aload_n hx hb dX3_doubleWaysOn_71 rfl (lv_at hl 0 rfl) ?_
                  refine lv_aload_n hx hb dX3_doubleWaysOn_72 rfl (lv_at hl 0 rfl) ?_
                  refine an_get (ci := 3) (v := .ref (g.2.2 7)) (C := RX3) (T := TX3) (N := 10) hx hb hts iw_X3_doubleWaysOn_X3 hown hK hP 13 rfl rfl 0 (by decide) (hts _ fl_X3_doubleWaysOn_32) rfl dX3_doubleWaysOn_73 ?_
                  refine an_get (ci := 4) (v := .ref (g.2.2 11)) (C := RX4) (T := TX4) (N := 6) hx hb hts iw_X3_doubleWaysOn_X4 hown hK hP 7 rfl rfl 3 (by decide) (hts _ fl_X3_doubleWaysOn_57) rfl dX3_doubleWaysOn_76 ?_
                  refine lv_iload hx hb dX3_doubleWaysOn_79 (lv_at hl 6 rfl) ?_
                  refine an_iald (f := sorts) hx hb hK hP 11 0 rfl rfl (by decide) (by omega) dX3_doubleWaysOn_81 ?_
                  refine ln_toi (y := (nI (tn (sorts i)))) (hs9.1) ?_
                  refine lv_iload_n hx hb dX3_doubleWaysOn_82 rfl (lv_at hl 2 rfl) ?_
                  refine lv_aload_n hx hb dX3_doubleWaysOn_83 rfl (lv_at hl 0 rfl) ?_
                  refine an_get (ci := 3) (v := .ref (g.2.2 7)) (C := RX3) (T := TX3) (N := 10) hx hb hts iw_X3_doubleWaysOn_X3 hown hK hP 13 rfl rfl 0 (by decide) (hts _ fl_X3_doubleWaysOn_32) rfl dX3_doubleWaysOn_84 ?_
                  refine an_get (ci := 4) (v := .ref (g.2.2 10)) (C := RX4) (T := TX4) (N := 6) hx hb hts iw_X3_doubleWaysOn_X4 hown hK hP 7 rfl rfl 2 (by decide) (hts _ fl_X3_doubleWaysOn_50) rfl dX3_doubleWaysOn_87 ?_
                  refine lv_iload hx hb dX3_doubleWaysOn_90 (lv_at hl 6 rfl) ?_
                  refine an_iald (f := feet) hx hb hK hP 10 0 rfl rfl (by decide) (by omega) dX3_doubleWaysOn_92 ?_
                  refine ln_toi (y := (nI (tn (feet i)))) (hf9.1) ?_
                  refine lv_isub hx hb dX3_doubleWaysOn_93 ?_
                  refine lv_iload_n hx hb dX3_doubleWaysOn_94 rfl (lv_at hl 3 rfl) ?_
                  refine lv_aload_n hx hb dX3_doubleWaysOn_95 rfl (lv_at hl 0 rfl) ?_
                  refine an_get (ci := 3) (v := .ref (g.2.2 15)) (C := RX3) (T := TX3) (N := 10) hx hb hts iw_X3_doubleWaysOn_X3 hown hK hP 13 rfl rfl 3 (by decide) (hts _ fl_X3_doubleWaysOn_15) rfl dX3_doubleWaysOn_96 ?_
                  refine lv_iload hx hb dX3_doubleWaysOn_99 (lv_at hl 6 rfl) ?_
                  refine an_iald (f := oneSums) hx hb hK hP 15 0 rfl rfl (by decide) (by omega) dX3_doubleWaysOn_101 ?_
                  refine ln_toi (y := (nI (o1 i))) (h19.1) ?_
                  refine lv_isub hx hb dX3_doubleWaysOn_102 ?_
                  refine lv_iload hx hb dX3_doubleWaysOn_103 (lv_at hl 4 rfl) ?_
                  refine lv_aload_n hx hb dX3_doubleWaysOn_105 rfl (lv_at hl 0 rfl) ?_
                  refine an_get (ci := 3) (v := .ref (g.2.2 16)) (C := RX3) (T := TX3) (N := 10) hx hb hts iw_X3_doubleWaysOn_X3 hown hK hP 13 rfl rfl 4 (by decide) (hts _ fl_X3_doubleWaysOn_18) rfl dX3_doubleWaysOn_106 ?_
                  refine lv_iload hx hb dX3_doubleWaysOn_109 (lv_at hl 6 rfl) ?_
                  refine an_iald (f := otherSums) hx hb hK hP 16 0 rfl rfl (by decide) (by omega) dX3_doubleWaysOn_111 ?_
                  refine ln_toi (y := (nI (o2 i))) (h29.1) ?_
                  refine lv_isub hx hb dX3_doubleWaysOn_112 ?_
                  refine ro_call (va_runV (As := [.int (nI (tn (sorts i))), .int ((nI (f0)) - (nI (tn (feet i)))), .int ((nI (y0)) - (nI (o1 i))), .int ((nI (z0)) - (nI (o2 i)))]) (rest := [.long (lN (dsq feet sorts nxt o1 o2 (dwy feet sorts nxt o1 o2 nv) f0 behind y0 z0 i))]) ⟨hx, hb, hml, hown, hts⟩ (IH (dd - 1) (by omega) (tn (sorts i)) ((nI (f0)) - (nI (tn (feet i)))) ((nI (y0)) - (nI (o1 i))) ((nI (z0)) - (nI (o2 i))) (by omega) (by omega) (by omega) (by omega) (by omega)) (cwV 4 hts gX3_doubleWaysOn_X3_doubleWaysOn rfl rfl rfl (by decide +kernel) ⟨show dd - 1 + 1 + 1 ≤ dd + 1 by omega, show 8 + (8 + 11) + (60 * (dd - 1) + 60) ≤ 60 * dd + 60 by omega⟩) (pre_V pW_bl (va_recv hK hP (ci := 3) (q0 := 13) rfl rfl) (fun U hU hW => pW_of hP hK hN hU hW)) rfl rfl hl.1 rfl (lv_room (Nat.le_of_ble_eq_true rfl)) dX3_doubleWaysOn_113 ⟨Nat.zero_le _, Nat.zero_le _⟩) ?_
                  refine ln_tol (y := (lN (dst feet sorts nxt o1 o2 (dwy feet sorts nxt o1 o2 nv) f0 behind y0 z0 i))) (by rw [dwz_e (by omega) (by omega) (by omega) (by omega) (by omega) (by omega)]; unfold dst; rw [if_pos c_66]) ?_
                  refine ln_ladd hx hb dX3_doubleWaysOn_116 ?_
                  refine lv_lstore (lv' := [(5, .long (lN ((dsq feet sorts nxt o1 o2 (dwy feet sorts nxt o1 o2 nv) f0 behind y0 z0 i) + (dst feet sorts nxt o1 o2 (dwy feet sorts nxt o1 o2 nv) f0 behind y0 z0 i)))), (0, .ref (g.2.2 13)), (1, .int (nI (behind))), (2, .int (nI (f0))), (3, .int (nI (y0))), (4, .int (nI (z0))), (7, .int (nI (i)))]) hx hb dX3_doubleWaysOn_117 hl (by decide) rfl (fun ls hl => ?_)
                  refine lv_iinc (v := (nI (i + 1))) (lv' := [(7, .int (nI (i + 1))), (5, .long (lN ((dsq feet sorts nxt o1 o2 (dwy feet sorts nxt o1 o2 nv) f0 behind y0 z0 i) + (dst feet sorts nxt o1 o2 (dwy feet sorts nxt o1 o2 nv) f0 behind y0 z0 i)))), (0, .ref (g.2.2 13)), (1, .int (nI (behind))), (2, .int (nI (f0))), (3, .int (nI (y0))), (4, .int (nI (z0)))]) hx hb dX3_doubleWaysOn_119 hl (k := 6) rfl (nI_add _ 1) (by decide) rfl (fun ls hl => ?_)
                  refine lv_goto (tgt := 44) hx hb dX3_doubleWaysOn_122 (by decide) ?_
                  exact ih_44 (i + 1) (by omega) (by omega) ls (lv_sub hl [2, 3, 4, 5, 6, 1, 0] rfl)
          exact lp_44 (nv - (0) + 1) 0 (Nat.zero_le _) (Nat.lt_succ_self _) ls (lv_sub hl [2, 3, 4, 5, 6, 1, 0] rfl)
        · have c_16 := (not_congr (cz_ge_i)).mp c_16
          refine lv_iload_n hx hb dX3_doubleWaysOn_19 rfl (lv_at hl 2 rfl) ?_
          refine lv_if_ne (tgt := 36) hx hb dX3_doubleWaysOn_20 (by decide) (fun c_20 => ?_) (fun c_20 => ?_)
          · have c_20 := (not_congr (cz_eq_i)).mp c_20
            refine lv_lconst (v := (lN (0))) hx hb dX3_doubleWaysOn_36 (by decide) ?_
            exact ro_lret hx hb hr hlocks (by congr 1; unfold dwz; by_cases q9 : 0 ≤ ft.toInt ∧ 0 ≤ y.toInt ∧ 0 ≤ z.toInt; (rw [if_pos q9, show tn ft = 0 by unfold tn; omega, dwy_0, if_neg (by unfold tn; omega)]); rw [if_neg q9]) dX3_doubleWaysOn_37
          · have c_20 := (cz_eq_i).mp c_20
            refine lv_iload_n hx hb dX3_doubleWaysOn_23 rfl (lv_at hl 3 rfl) ?_
            refine lv_if_ne (tgt := 36) hx hb dX3_doubleWaysOn_24 (by decide) (fun c_24 => ?_) (fun c_24 => ?_)
            · have c_24 := (not_congr (cz_eq_i)).mp c_24
              refine lv_lconst (v := (lN (0))) hx hb dX3_doubleWaysOn_36 (by decide) ?_
              exact ro_lret hx hb hr hlocks (by congr 1; unfold dwz; by_cases q9 : 0 ≤ ft.toInt ∧ 0 ≤ y.toInt ∧ 0 ≤ z.toInt; (rw [if_pos q9, show tn ft = 0 by unfold tn; omega, dwy_0, if_neg (by unfold tn; omega)]); rw [if_neg q9]) dX3_doubleWaysOn_37
            · have c_24 := (cz_eq_i).mp c_24
              refine lv_iload hx hb dX3_doubleWaysOn_27 (lv_at hl 4 rfl) ?_
              refine lv_if_ne (tgt := 36) hx hb dX3_doubleWaysOn_29 (by decide) (fun c_29 => ?_) (fun c_29 => ?_)
              · have c_29 := (not_congr (cz_eq_i)).mp c_29
                refine lv_lconst (v := (lN (0))) hx hb dX3_doubleWaysOn_36 (by decide) ?_
                exact ro_lret hx hb hr hlocks (by congr 1; unfold dwz; by_cases q9 : 0 ≤ ft.toInt ∧ 0 ≤ y.toInt ∧ 0 ≤ z.toInt; (rw [if_pos q9, show tn ft = 0 by unfold tn; omega, dwy_0, if_neg (by unfold tn; omega)]); rw [if_neg q9]) dX3_doubleWaysOn_37
              · have c_29 := (cz_eq_i).mp c_29
                refine lv_lconst (v := (lN (1))) hx hb dX3_doubleWaysOn_32 (by decide) ?_
                refine lv_goto (tgt := 37) hx hb dX3_doubleWaysOn_33 (by decide) ?_
                exact ro_lret hx hb hr hlocks (by have h1 : ft = nI 0 := (cv_eq_in (by decide)).mpr (by omega); have h2 : y = nI 0 := (cv_eq_in (by decide)).mpr (by omega); have h3 : z = nI 0 := (cv_eq_in (by decide)).mpr (by omega); rw [h1, h2, h3, dwz_n (by decide) (by decide) (by decide)]; rfl) dX3_doubleWaysOn_37
theorem kd_all (l : Launch) {g : GW} {asked : Int64} {values : Nat → Int32} {bytes : Nat → Int32} {starts : Nat → Int32} {ends : Nat → Int32} {length : Int32} {parts : Int32} {texts : Nat → Int32} {lengths : Nat → Int32} {feet : Nat → Int32} {sorts : Nat → Int32} {nxt : Nat → Int32} {sums : Nat → Int32} {oneSums : Nat → Int32} {otherSums : Nat → Int32} {byFeet : Nat → Int64} {kept : Nat → Int64} {over : Int32} {rcount : Int32} {rcust : Int32} {ssums : Nat → Int32} {ways : Nat → Int64} {nextWays : Nat → Int64} {reached : Nat → Int64} {nextReached : Nat → Int64} {found : Int32} {least : Int32} {greatest : Int32} {nv : Nat} (o1 o2 : Nat → Nat) (hnv : nv ≤ 10) (hfe : okV feet nv 1 3) (hso : okV sorts nv 0 2) (hs1 : ∀ v, v < nv → oneSums v = nI (o1 v) ∧ o1 v ≤ 8000) (hs2 : ∀ v, v < nv → otherSums v = nI (o2 v) ∧ o2 v ≤ 8000) : ∀ n d, d < n → KD l g asked values bytes starts ends length parts texts lengths feet sorts nxt sums oneSums otherSums byFeet kept over rcount rcust ssums ways nextWays reached nextReached found least greatest nv o1 o2 d
  | 0, d, h => absurd h (Nat.not_lt_zero d)
  | n + 1, d, h => fun behind ft y z h1 h2 h3 h4 h5 => c_X3_doubleWaysOn_s l behind ft y z o1 o2 d h1 h2 h3 h4 h5 hnv hfe hso hs1 hs2 (fun d2 hd2 => kd_all l o1 o2 hnv hfe hso hs1 hs2 n d2 (by omega))
