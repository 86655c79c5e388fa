set_option maxHeartbeats 200000 in
set_option maxRecDepth 100000 in
theorem c_X6_in_n (l : Launch) (x : Nat) (lo : Nat) (hi : Nat) (h0 : x < 2 ^ 63) (h1 : lo < 2 ^ 63) (h2 : hi < 2 ^ 63) : Met l yX6_in wsX6_in ({ frames := 0, cells := 0, slots := 0, locals := 0 }) (va_Pc ([.long (lN (x)), .long (lN (lo)), .long (lN (hi))]) (fun _ => True)) (ro_Q (.int (if lo ≤ x ∧ x ≤ hi then 1 else 0))) 0 0 (fun _ => False) := by
  refine Met.ofW (cc := cX6_in) (maxL := 6) (ret := (some .boolean)) (by decide) rfl ?_
  intro p e s m args below meth c s₁ B hml hv
  obtain ⟨rfl, -⟩ := hv
  have hx := B.exec
  have hb := B.bytes
  have hr := B.returns
  have hts := atoms_spec (ws := wsX6_in) B.pre
  have hown : s.vm.findClass RX6 = some m.cls := findClass_of_methodNamed B.named
  have hlocks := B.notSynchronized
  have hl := lv_entry ([.long (lN (x)), .long (lN (lo)), .long (lN (hi))]) (n := 6) (Nat.le_of_ble_eq_true rfl)
  rw [lg_entry_eq]
  generalize (lg_sl ([.long (lN (x)), .long (lN (lo)), .long (lN (hi))]) ++ List.replicate (6 - (lg_sl ([.long (lN (x)), .long (lN (lo)), .long (lN (hi))])).length) Slot.unset).toArray = ls at hl ⊢
  have hl : lv_has ls 6 [(0, .long (lN (x))), (2, .long (lN (lo))), (4, .long (lN (hi)))] := hl
  refine lv_lload_n hx hb dX6_in_0 rfl (lv_at hl 0 rfl) ?_
  refine lv_lload_n hx hb dX6_in_1 rfl (lv_at hl 1 rfl) ?_
  refine W.lcmp hx hb dX6_in_2 ?_
  refine lv_if_lt (tgt := 17) hx hb dX6_in_3 (by decide) (fun c_3 => ?_) (fun c_3 => ?_)
  · have c_3 := (cx_lt (by omega) (by omega)).1 c_3
    refine lv_iconst (v := (nI (0))) hx hb dX6_in_17 (by decide) ?_
    exact ro_zret hx hb hr hlocks (rfl) (zero_if (by first | omega | assumption)) dX6_in_18
  · have c_3 := (cx_lt (by omega) (by omega)).2 c_3
    refine lv_lload_n hx hb dX6_in_6 rfl (lv_at hl 0 rfl) ?_
    refine lv_lload hx hb dX6_in_7 (lv_at hl 2 rfl) ?_
    refine W.lcmp hx hb dX6_in_9 ?_
    refine lv_if_gt (tgt := 17) hx hb dX6_in_10 (by decide) (fun c_10 => ?_) (fun c_10 => ?_)
    · have c_10 := (cx_gt (by omega) (by omega)).1 c_10
      refine lv_iconst (v := (nI (0))) hx hb dX6_in_17 (by decide) ?_
      exact ro_zret hx hb hr hlocks (rfl) (zero_if (by first | omega | assumption)) dX6_in_18
    · have c_10 := (cx_gt (by omega) (by omega)).2 c_10
      refine lv_iconst (v := (nI (1))) hx hb dX6_in_13 (by decide) ?_
      refine lv_goto (tgt := 18) hx hb dX6_in_14 (by decide) ?_
      exact ro_zret hx hb hr hlocks (rfl) (one_if (by first | omega | assumption)) dX6_in_18
theorem iw_X6_parts_X6 : ∀ w ∈ u_ws RX6 TX6 23, w ∈ wsX6_parts := by decide +kernel
theorem fl_X6_parts_13 : Cond.fieldLink RX6 13 (TX6 3).1 (TX6 3).2.1 (TX6 3).2.2.1 ∈ wsX6_parts := by decide +kernel
theorem fl_X6_parts_48 : Cond.fieldLink RX6 48 (TX6 17).1 (TX6 17).2.1 (TX6 17).2.2.1 ∈ wsX6_parts := by decide +kernel
theorem fl_X6_parts_51 : Cond.fieldLink RX6 51 (TX6 18).1 (TX6 18).2.1 (TX6 18).2.2.1 ∈ wsX6_parts := by decide +kernel
theorem fl_X6_parts_117 : Cond.fieldLink RX6 117 (TX6 4).1 (TX6 4).2.1 (TX6 4).2.2.1 ∈ wsX6_parts := by decide +kernel
theorem fl_X6_parts_154 : Cond.fieldLink RX6 154 (TX6 16).1 (TX6 16).2.1 (TX6 16).2.2.1 ∈ wsX6_parts := by decide +kernel
set_option maxHeartbeats 200000 in
set_option maxRecDepth 100000 in
theorem c_X6_parts (l : Launch) {g : GW} {trace : Int64} {value : Nat → Int32} {draft : Nat → Int32} {L : Nat} {vocables : Int32} {letter : Nat → Int32} {long1 : Nat → Int32} {feet : Nat → Int32} {sort : Nat → Int32} {order : Nat → Int32} {left : Nat → Int64} {opn : Nat → Int64} {own : Nat → Int32} {other : Nat → Int32} {pick : Nat → Int32} {parts : Int32} {frm : Nat → Int32} {size : Nat → Int32} {isYear : Nat → Int32} {isNext : Nat → Int32} {ways : Nat → Int64} {nextWays : Nat → Int64} {sz : Nat} (hL2 : L ≤ 40) (hd : dW 19 g.2.2) : Met l yX6_parts wsX6_parts ({ frames := 0, cells := 0, slots := 0, locals := 0 }) (va_Pc ([.ref (g.2.2 0)]) (qW g (wM g trace value draft (nI (L)) vocables letter long1 feet sort order left opn own other pick parts frm size isYear isNext ways nextWays) sz)) (va_Qv (fun (z : (Nat → Int32) × (Nat → Int32) × Int32) => z.2.2 = nI (pn draft L) ∧ prow2 draft L z.1 z.2.1) (fun (z : (Nat → Int32) × (Nat → Int32) × Int32) (t : State) => va_P g.1 vwCl (wM g trace value draft (nI (L)) vocables letter long1 feet sort order left opn own other pick (z.2.2) (z.1) (z.2.1) isYear isNext ways nextWays) t.heap) (aW 19 g.2.2 sz)) 0 0 (aW 19 g.2.2 sz) := by
  refine Met.ofW (cc := cX6_parts) (maxL := 2) (ret := none) (by decide) rfl ?_
  intro p e s m args below meth c s₁ B hml hv
  obtain ⟨rfl, hsz9, hP, hK, hN⟩ := hv
  subst hsz9
  have hx := B.exec
  have hb := B.bytes
  have hr := B.returns
  have hts := atoms_spec (ws := wsX6_parts) B.pre
  have hown : s.vm.findClass RX6 = some m.cls := findClass_of_methodNamed B.named
  have hlocks := B.notSynchronized
  have hS : va_S (aW 19 g.2.2 s.heap.size) s.heap s.heap [] := va_S.rf
  have hl := lv_entry ([.ref (g.2.2 0)]) (n := 2) (Nat.le_of_ble_eq_true rfl)
  rw [lg_entry_eq]
  generalize (lg_sl ([.ref (g.2.2 0)]) ++ List.replicate (2 - (lg_sl ([.ref (g.2.2 0)])).length) Slot.unset).toArray = ls at hl ⊢
  have hl : lv_has ls 2 [(0, .ref (g.2.2 0))] := hl
  refine lv_aload_n hx hb dX6_parts_0 rfl (lv_at hl 0 rfl) ?_
  refine lv_iconst (v := (nI (0))) hx hb dX6_parts_1 (by decide) ?_
  refine an_put (ci := 6) (v := .int (nI (0))) (ty := .int) (C := RX6) (T := TX6) (N := 23) (ws' := (wM g trace value draft (nI (L)) vocables letter long1 feet sort order left opn own other pick ((nI (0))) frm size isYear isNext ways nextWays)) hx hb hts iw_X6_parts_X6 tyX6 tyX6_ok nmX6 hown hK hP (wM_D hd) hS 0 rfl rfl 16 (by decide) (hts _ fl_X6_parts_154) rfl (by decide +kernel) (rfl) (rfl) (Nat.le_of_ble_eq_true rfl) rfl dX6_parts_2 (fun H locs hP hS => ?_)
  refine lv_iconst (v := (nI (0))) hx hb dX6_parts_5 (by decide) ?_
  refine lv_istore_n (lv' := [(1, .int (nI (0))), (0, .ref (g.2.2 0))]) hx hb dX6_parts_6 rfl hl (by decide) rfl (fun ls hl => ?_)
  have lp_7 : ∀ (n : Nat) (k : Nat) (st : Nat → Int32) (en : Nat → Int32), (k ≤ L) → (prow2 draft k st en) → L - k < n → ∀ (H : Heap) (locs : List Loc), va_P g.1 vwCl (wM g trace value draft (nI (L)) vocables letter long1 feet sort order left opn own other pick (nI (pn draft k)) st en isYear isNext ways nextWays) H → va_S (aW 19 g.2.2 s.heap.size) s.heap H locs → ∀ (ls : Array Slot), lv_has ls 2 [(0, .ref (g.2.2 0)), (1, .int (nI (k)))] → W p l e (headSpec wsX6_parts ({ frames := 0, cells := 0, slots := 0, locals := 0 })).room s m (([.ref (g.2.2 0)] : List Value).toArray) below meth c H locs 0 0 (MQ below (va_Qv (fun (z : (Nat → Int32) × (Nat → Int32) × Int32) => z.2.2 = nI (pn draft L) ∧ prow2 draft L z.1 z.2.1) (fun (z : (Nat → Int32) × (Nat → Int32) × Int32) (t : State) => va_P g.1 vwCl (wM g trace value draft (nI (L)) vocables letter long1 feet sort order left opn own other pick (z.2.2) (z.1) (z.2.1) isYear isNext ways nextWays) t.heap) (aW 19 g.2.2 s.heap.size)) (([.ref (g.2.2 0)] : List Value).toArray) s 0 0 (aW 19 g.2.2 s.heap.size)) (F0 m 7 ls []) := by
    intro n
    induction n with
    | zero => intro k st en hi hrr hm; exact absurd hm (Nat.not_lt_zero _)
    | succ n ih_7 =>
      intro k st en hi hrr hm_7 H locs hP hS ls hl
      have hrm := pn_room draft k
      refine lv_iload_n hx hb dX6_parts_7 rfl (lv_at hl 1 rfl) ?_
      refine lv_aload_n hx hb dX6_parts_8 rfl (lv_at hl 0 rfl) ?_
      refine an_get (ci := 6) (v := .int (nI (L))) (C := RX6) (T := TX6) (N := 23) hx hb hts iw_X6_parts_X6 hown hK hP 0 rfl rfl 4 (by decide) (hts _ fl_X6_parts_117) rfl dX6_parts_9 ?_
      refine lv_icmp_ge (tgt := 94) hx hb dX6_parts_12 (by decide) (fun c_12 => ?_) (fun c_12 => ?_)
      · have c_12 := (cv_le_nn (by omega) (by omega)).mp c_12
        exact wr_vret (st, en, nI (pn draft k)) hx hb hr hlocks (by rw [show L = k by omega]; exact ⟨rfl, hrr⟩) (fun t ht => show va_P g.1 vwCl (wM g trace value draft (nI (L)) vocables letter long1 feet sort order left opn own other pick (nI (pn draft k)) st en isYear isNext ways nextWays) t.heap by rw [ht]; exact hP) hS dX6_parts_94
      · have c_12 := (not_congr (cv_le_nn (by omega) (by omega))).mp c_12
        refine lv_aload_n hx hb dX6_parts_15 rfl (lv_at hl 0 rfl) ?_
        refine an_get (ci := 6) (v := .ref (g.2.2 2)) (C := RX6) (T := TX6) (N := 23) hx hb hts iw_X6_parts_X6 hown hK hP 0 rfl rfl 3 (by decide) (hts _ fl_X6_parts_13) rfl dX6_parts_16 ?_
        refine lv_iload_n hx hb dX6_parts_19 rfl (lv_at hl 1 rfl) ?_
        refine an_iald (f := draft) hx hb hK hP 2 0 rfl rfl (by decide) (by omega) dX6_parts_20 ?_
        refine lv_bipush (v := (nI (32))) hx hb dX6_parts_21 (by decide) ?_
        refine lv_icmp_eq (tgt := 88) hx hb dX6_parts_23 (by decide) (fun c_23 => ?_) (fun c_23 => ?_)
        · have c_23 := (cv_eq_in (by omega)).mp c_23
          refine lv_iinc (v := (nI (k + 1))) (lv' := [(1, .int (nI (k + 1))), (0, .ref (g.2.2 0))]) hx hb dX6_parts_88 hl (k := 1) rfl (nI_add _ 1) (by decide) rfl (fun ls hl => ?_)
          refine lv_goto (tgt := 7) hx hb dX6_parts_91 (by decide) ?_
          rw [← pn_old (Or.inl c_23)] at hP
          exact ih_7 (k + 1) st en (by omega) (prow2_sp hrr c_23) (by omega) _ _ hP hS ls (lv_sub hl [1, 0] rfl)
        · have c_23 := (not_congr (cv_eq_in (by omega))).mp c_23
          refine lv_iload_n hx hb dX6_parts_26 rfl (lv_at hl 1 rfl) ?_
          refine lv_if_eq (tgt := 43) hx hb dX6_parts_27 (by decide) (fun c_27 => ?_) (fun c_27 => ?_)
          · have c_27 := (cz_eq_n (by omega)).mp c_27
            have h43 : (ahd draft 0 k).toInt = 32 := by first | (rw [← ahd_z c_27]; exact nI32) | (rw [← ahd_p c_27]; omega)
            have h35 := hrm.2.1 h43
            refine lv_aload_n hx hb dX6_parts_43 rfl (lv_at hl 0 rfl) ?_
            refine an_get (ci := 6) (v := .ref (g.2.2 13)) (C := RX6) (T := TX6) (N := 23) hx hb hts iw_X6_parts_X6 hown hK hP 0 rfl rfl 17 (by decide) (hts _ fl_X6_parts_48) rfl dX6_parts_44 ?_
            refine lv_aload_n hx hb dX6_parts_47 rfl (lv_at hl 0 rfl) ?_
            refine an_get (ci := 6) (v := .int (nI (pn draft k))) (C := RX6) (T := TX6) (N := 23) hx hb hts iw_X6_parts_X6 hown hK hP 0 rfl rfl 16 (by decide) (hts _ fl_X6_parts_154) rfl dX6_parts_48 ?_
            refine lv_iload_n hx hb dX6_parts_51 rfl (lv_at hl 1 rfl) ?_
            refine an_iast (f := st) (ws' := (wM g trace value draft (nI (L)) vocables letter long1 feet sort order left opn own other pick (nI (pn draft k)) (upd (st) (pn draft k) (nI (k))) en isYear isNext ways nextWays)) hx hb hK hP (wM_D hd) hS 13 0 rfl rfl (by decide) (by omega) rfl dX6_parts_52 (fun H locs hP hS => ?_)
            refine lv_aload_n hx hb dX6_parts_53 rfl (lv_at hl 0 rfl) ?_
            refine an_get (ci := 6) (v := .ref (g.2.2 14)) (C := RX6) (T := TX6) (N := 23) hx hb hts iw_X6_parts_X6 hown hK hP 0 rfl rfl 18 (by decide) (hts _ fl_X6_parts_51) rfl dX6_parts_54 ?_
            refine lv_aload_n hx hb dX6_parts_57 rfl (lv_at hl 0 rfl) ?_
            refine an_get (ci := 6) (v := .int (nI (pn draft k))) (C := RX6) (T := TX6) (N := 23) hx hb hts iw_X6_parts_X6 hown hK hP 0 rfl rfl 16 (by decide) (hts _ fl_X6_parts_154) rfl dX6_parts_58 ?_
            refine lv_iconst (v := (nI (0))) hx hb dX6_parts_61 (by decide) ?_
            refine an_iast (f := en) (ws' := (wM g trace value draft (nI (L)) vocables letter long1 feet sort order left opn own other pick (nI (pn draft k)) (upd (st) (pn draft k) (nI (k))) (upd (en) (pn draft k) (nI (0))) isYear isNext ways nextWays)) hx hb hK hP (wM_D hd) hS 14 0 rfl rfl (by decide) (by omega) rfl dX6_parts_62 (fun H locs hP hS => ?_)
            refine lv_aload_n hx hb dX6_parts_63 rfl (lv_at hl 0 rfl) ?_
            refine lv_dup hx hb dX6_parts_64 rfl ?_
            refine an_get (ci := 6) (v := .int (nI (pn draft k))) (C := RX6) (T := TX6) (N := 23) hx hb hts iw_X6_parts_X6 hown hK hP 0 rfl rfl 16 (by decide) (hts _ fl_X6_parts_154) rfl dX6_parts_65 ?_
            refine lv_iconst (v := (nI (1))) hx hb dX6_parts_68 (by decide) ?_
            refine ln_iadd hx hb dX6_parts_69 ?_
            refine an_put (ci := 6) (v := .int (nI ((pn draft k) + 1))) (ty := .int) (C := RX6) (T := TX6) (N := 23) (ws' := (wM g trace value draft (nI (L)) vocables letter long1 feet sort order left opn own other pick ((nI ((pn draft k) + 1))) (upd (st) (pn draft k) (nI (k))) (upd (en) (pn draft k) (nI (0))) isYear isNext ways nextWays)) hx hb hts iw_X6_parts_X6 tyX6 tyX6_ok nmX6 hown hK hP (wM_D hd) hS 0 rfl rfl 16 (by decide) (hts _ fl_X6_parts_154) rfl (by decide +kernel) (rfl) (rfl) (Nat.le_of_ble_eq_true rfl) rfl dX6_parts_70 (fun H locs hP hS => ?_)
            refine lv_aload_n hx hb dX6_parts_73 rfl (lv_at hl 0 rfl) ?_
            refine an_get (ci := 6) (v := .ref (g.2.2 14)) (C := RX6) (T := TX6) (N := 23) hx hb hts iw_X6_parts_X6 hown hK hP 0 rfl rfl 18 (by decide) (hts _ fl_X6_parts_51) rfl dX6_parts_74 ?_
            refine lv_aload_n hx hb dX6_parts_77 rfl (lv_at hl 0 rfl) ?_
            refine an_get (ci := 6) (v := .int (nI ((pn draft k) + 1))) (C := RX6) (T := TX6) (N := 23) hx hb hts iw_X6_parts_X6 hown hK hP 0 rfl rfl 16 (by decide) (hts _ fl_X6_parts_154) rfl dX6_parts_78 ?_
            refine lv_iconst (v := (nI (1))) hx hb dX6_parts_81 (by decide) ?_
            refine ln_isub hx hb (by omega) dX6_parts_82 ?_
            refine lv_dup2_11 hx hb dX6_parts_83 rfl rfl ?_
            refine an_iald (f := upd (en) (pn draft k) (nI (0))) hx hb hK hP 14 0 rfl rfl (by decide) (by omega) dX6_parts_84 ?_
            refine ln_toi (y := (nI (0))) (by rw [Nat.add_sub_cancel]; exact pk_us) ?_
            refine lv_iconst (v := (nI (1))) hx hb dX6_parts_85 (by decide) ?_
            refine ln_iadd hx hb dX6_parts_86 ?_
            refine an_iast (f := upd (en) (pn draft k) (nI (0))) (ws' := (wM g trace value draft (nI (L)) vocables letter long1 feet sort order left opn own other pick ((nI ((pn draft k) + 1))) (upd (st) (pn draft k) (nI (k))) (upd (upd (en) (pn draft k) (nI (0))) (((pn draft k) + 1) - 1) (nI (0 + 1))) isYear isNext ways nextWays)) hx hb hK hP (wM_D hd) hS 14 0 rfl rfl (by decide) (by omega) rfl dX6_parts_87 (fun H locs hP hS => ?_)
            refine lv_iinc (v := (nI (k + 1))) (lv' := [(1, .int (nI (k + 1))), (0, .ref (g.2.2 0))]) hx hb dX6_parts_88 hl (k := 1) rfl (nI_add _ 1) (by decide) rfl (fun ls hl => ?_)
            refine lv_goto (tgt := 7) hx hb dX6_parts_91 (by decide) ?_
            have hah : (ahd draft 0 k).toInt = ((32 : Nat) : Int) := by rw [← ahd_z c_27]; exact nI32
            rw [Nat.add_sub_cancel] at hP
            rw [← pn_new c_23 hah] at hP
            exact ih_7 (k + 1) (upd st (pn draft k) (nI k)) (upd (upd en (pn draft k) (nI 0)) (pn draft k) (nI (0 + 1))) (by omega) (prow2_new hrr c_23 hah) (by omega) _ _ hP hS ls (lv_sub hl [1, 0] rfl)
          · have c_27 := (not_congr (cz_eq_n (by omega))).mp c_27
            refine lv_aload_n hx hb dX6_parts_30 rfl (lv_at hl 0 rfl) ?_
            refine an_get (ci := 6) (v := .ref (g.2.2 2)) (C := RX6) (T := TX6) (N := 23) hx hb hts iw_X6_parts_X6 hown hK hP 0 rfl rfl 3 (by decide) (hts _ fl_X6_parts_13) rfl dX6_parts_31 ?_
            refine lv_iload_n hx hb dX6_parts_34 rfl (lv_at hl 1 rfl) ?_
            refine lv_iconst (v := (nI (1))) hx hb dX6_parts_35 (by decide) ?_
            refine ln_isub hx hb (by omega) dX6_parts_36 ?_
            refine an_iald (f := draft) hx hb hK hP 2 0 rfl rfl (by decide) (by omega) dX6_parts_37 ?_
            refine lv_bipush (v := (nI (32))) hx hb dX6_parts_38 (by decide) ?_
            refine lv_icmp_ne (tgt := 73) hx hb dX6_parts_40 (by decide) (fun c_40 => ?_) (fun c_40 => ?_)
            · have c_40 := (not_congr (cv_eq_in (by omega))).mp c_40
              have hah : ¬ (ahd draft 0 k).toInt = ((32 : Nat) : Int) := by rw [← ahd_p c_27]; exact c_40
              have h1 := hrm.2.2 (by omega)
              refine lv_aload_n hx hb dX6_parts_73 rfl (lv_at hl 0 rfl) ?_
              refine an_get (ci := 6) (v := .ref (g.2.2 14)) (C := RX6) (T := TX6) (N := 23) hx hb hts iw_X6_parts_X6 hown hK hP 0 rfl rfl 18 (by decide) (hts _ fl_X6_parts_51) rfl dX6_parts_74 ?_
              refine lv_aload_n hx hb dX6_parts_77 rfl (lv_at hl 0 rfl) ?_
              refine an_get (ci := 6) (v := .int (nI (pn draft k))) (C := RX6) (T := TX6) (N := 23) hx hb hts iw_X6_parts_X6 hown hK hP 0 rfl rfl 16 (by decide) (hts _ fl_X6_parts_154) rfl dX6_parts_78 ?_
              refine lv_iconst (v := (nI (1))) hx hb dX6_parts_81 (by decide) ?_
              refine ln_isub hx hb (by omega) dX6_parts_82 ?_
              refine lv_dup2_11 hx hb dX6_parts_83 rfl rfl ?_
              refine an_iald (f := en) hx hb hK hP 14 0 rfl rfl (by decide) (by omega) dX6_parts_84 ?_
              refine ln_toi (y := (nI (pex draft k (pn draft k - 1) - psx draft k (pn draft k - 1)))) ((hrr _ (by omega)).2) ?_
              refine lv_iconst (v := (nI (1))) hx hb dX6_parts_85 (by decide) ?_
              refine ln_iadd hx hb dX6_parts_86 ?_
              refine an_iast (f := en) (ws' := (wM g trace value draft (nI (L)) vocables letter long1 feet sort order left opn own other pick (nI (pn draft k)) st (upd (en) ((pn draft k) - 1) (nI ((pex draft k (pn draft k - 1) - psx draft k (pn draft k - 1)) + 1))) isYear isNext ways nextWays)) hx hb hK hP (wM_D hd) hS 14 0 rfl rfl (by decide) (by omega) rfl dX6_parts_87 (fun H locs hP hS => ?_)
              refine lv_iinc (v := (nI (k + 1))) (lv' := [(1, .int (nI (k + 1))), (0, .ref (g.2.2 0))]) hx hb dX6_parts_88 hl (k := 1) rfl (nI_add _ 1) (by decide) rfl (fun ls hl => ?_)
              refine lv_goto (tgt := 7) hx hb dX6_parts_91 (by decide) ?_
              rw [← pn_old (Or.inr hah)] at hP
              exact ih_7 (k + 1) st (upd en (pn draft (k + 1) - 1) (nI (pex draft k (pn draft (k + 1) - 1) - psx draft k (pn draft (k + 1) - 1) + 1))) (by omega) (by rw [pn_old (Or.inr hah)]; exact prow2_in hrr c_23 hah) (by omega) _ _ hP hS ls (lv_sub hl [1, 0] rfl)
            · have c_40 := (cv_eq_in (by omega)).mp c_40
              have h43 : (ahd draft 0 k).toInt = 32 := by first | (rw [← ahd_z c_27]; exact nI32) | (rw [← ahd_p c_27]; omega)
              have h35 := hrm.2.1 h43
              refine lv_aload_n hx hb dX6_parts_43 rfl (lv_at hl 0 rfl) ?_
              refine an_get (ci := 6) (v := .ref (g.2.2 13)) (C := RX6) (T := TX6) (N := 23) hx hb hts iw_X6_parts_X6 hown hK hP 0 rfl rfl 17 (by decide) (hts _ fl_X6_parts_48) rfl dX6_parts_44 ?_
              refine lv_aload_n hx hb dX6_parts_47 rfl (lv_at hl 0 rfl) ?_
              refine an_get (ci := 6) (v := .int (nI (pn draft k))) (C := RX6) (T := TX6) (N := 23) hx hb hts iw_X6_parts_X6 hown hK hP 0 rfl rfl 16 (by decide) (hts _ fl_X6_parts_154) rfl dX6_parts_48 ?_
              refine lv_iload_n hx hb dX6_parts_51 rfl (lv_at hl 1 rfl) ?_
              refine an_iast (f := st) (ws' := (wM g trace value draft (nI (L)) vocables letter long1 feet sort order left opn own other pick (nI (pn draft k)) (upd (st) (pn draft k) (nI (k))) en isYear isNext ways nextWays)) hx hb hK hP (wM_D hd) hS 13 0 rfl rfl (by decide) (by omega) rfl dX6_parts_52 (fun H locs hP hS => ?_)
              refine lv_aload_n hx hb dX6_parts_53 rfl (lv_at hl 0 rfl) ?_
              refine an_get (ci := 6) (v := .ref (g.2.2 14)) (C := RX6) (T := TX6) (N := 23) hx hb hts iw_X6_parts_X6 hown hK hP 0 rfl rfl 18 (by decide) (hts _ fl_X6_parts_51) rfl dX6_parts_54 ?_
              refine lv_aload_n hx hb dX6_parts_57 rfl (lv_at hl 0 rfl) ?_
              refine an_get (ci := 6) (v := .int (nI (pn draft k))) (C := RX6) (T := TX6) (N := 23) hx hb hts iw_X6_parts_X6 hown hK hP 0 rfl rfl 16 (by decide) (hts _ fl_X6_parts_154) rfl dX6_parts_58 ?_
              refine lv_iconst (v := (nI (0))) hx hb dX6_parts_61 (by decide) ?_
              refine an_iast (f := en) (ws' := (wM g trace value draft (nI (L)) vocables letter long1 feet sort order left opn own other pick (nI (pn draft k)) (upd (st) (pn draft k) (nI (k))) (upd (en) (pn draft k) (nI (0))) isYear isNext ways nextWays)) hx hb hK hP (wM_D hd) hS 14 0 rfl rfl (by decide) (by omega) rfl dX6_parts_62 (fun H locs hP hS => ?_)
              refine lv_aload_n hx hb dX6_parts_63 rfl (lv_at hl 0 rfl) ?_
              refine lv_dup hx hb dX6_parts_64 rfl ?_
              refine an_get (ci := 6) (v := .int (nI (pn draft k))) (C := RX6) (T := TX6) (N := 23) hx hb hts iw_X6_parts_X6 hown hK hP 0 rfl rfl 16 (by decide) (hts _ fl_X6_parts_154) rfl dX6_parts_65 ?_
              refine lv_iconst (v := (nI (1))) hx hb dX6_parts_68 (by decide) ?_
              refine ln_iadd hx hb dX6_parts_69 ?_
              refine an_put (ci := 6) (v := .int (nI ((pn draft k) + 1))) (ty := .int) (C := RX6) (T := TX6) (N := 23) (ws' := (wM g trace value draft (nI (L)) vocables letter long1 feet sort order left opn own other pick ((nI ((pn draft k) + 1))) (upd (st) (pn draft k) (nI (k))) (upd (en) (pn draft k) (nI (0))) isYear isNext ways nextWays)) hx hb hts iw_X6_parts_X6 tyX6 tyX6_ok nmX6 hown hK hP (wM_D hd) hS 0 rfl rfl 16 (by decide) (hts _ fl_X6_parts_154) rfl (by decide +kernel) (rfl) (rfl) (Nat.le_of_ble_eq_true rfl) rfl dX6_parts_70 (fun H locs hP hS => ?_)
              refine lv_aload_n hx hb dX6_parts_73 rfl (lv_at hl 0 rfl) ?_
              refine an_get (ci := 6) (v := .ref (g.2.2 14)) (C := RX6) (T := TX6) (N := 23) hx hb hts iw_X6_parts_X6 hown hK hP 0 rfl rfl 18 (by decide) (hts _ fl_X6_parts_51) rfl dX6_parts_74 ?_
              refine lv_aload_n hx hb dX6_parts_77 rfl (lv_at hl 0 rfl) ?_
              refine an_get (ci := 6) (v := .int (nI ((pn draft k) + 1))) (C := RX6) (T := TX6) (N := 23) hx hb hts iw_X6_parts_X6 hown hK hP 0 rfl rfl 16 (by decide) (hts _ fl_X6_parts_154) rfl dX6_parts_78 ?_
              refine lv_iconst (v := (nI (1))) hx hb dX6_parts_81 (by decide) ?_
              refine ln_isub hx hb (by omega) dX6_parts_82 ?_
              refine lv_dup2_11 hx hb dX6_parts_83 rfl rfl ?_
              refine an_iald (f := upd (en) (pn draft k) (nI (0))) hx hb hK hP 14 0 rfl rfl (by decide) (by omega) dX6_parts_84 ?_
              refine ln_toi (y := (nI (0))) (by rw [Nat.add_sub_cancel]; exact pk_us) ?_
              refine lv_iconst (v := (nI (1))) hx hb dX6_parts_85 (by decide) ?_
              refine ln_iadd hx hb dX6_parts_86 ?_
              refine an_iast (f := upd (en) (pn draft k) (nI (0))) (ws' := (wM g trace value draft (nI (L)) vocables letter long1 feet sort order left opn own other pick ((nI ((pn draft k) + 1))) (upd (st) (pn draft k) (nI (k))) (upd (upd (en) (pn draft k) (nI (0))) (((pn draft k) + 1) - 1) (nI (0 + 1))) isYear isNext ways nextWays)) hx hb hK hP (wM_D hd) hS 14 0 rfl rfl (by decide) (by omega) rfl dX6_parts_87 (fun H locs hP hS => ?_)
              refine lv_iinc (v := (nI (k + 1))) (lv' := [(1, .int (nI (k + 1))), (0, .ref (g.2.2 0))]) hx hb dX6_parts_88 hl (k := 1) rfl (nI_add _ 1) (by decide) rfl (fun ls hl => ?_)
              refine lv_goto (tgt := 7) hx hb dX6_parts_91 (by decide) ?_
              have hah : (ahd draft 0 k).toInt = ((32 : Nat) : Int) := by rw [← ahd_p c_27]; exact c_40
              rw [Nat.add_sub_cancel] at hP
              rw [← pn_new c_23 hah] at hP
              exact ih_7 (k + 1) (upd st (pn draft k) (nI k)) (upd (upd en (pn draft k) (nI 0)) (pn draft k) (nI (0 + 1))) (by omega) (prow2_new hrr c_23 hah) (by omega) _ _ hP hS ls (lv_sub hl [1, 0] rfl)
  exact lp_7 (L - (0) + 1) 0 frm size (Nat.zero_le _) (fun i hi => absurd hi (Nat.not_lt_zero i)) (Nat.lt_succ_self _) _ _ hP hS ls (lv_sub hl [1, 0] rfl)
theorem iw_X6_isFit_X6 : ∀ w ∈ u_ws RX6 TX6 23, w ∈ wsX6_isFit := by decide +kernel
theorem fl_X6_isFit_13 : Cond.fieldLink RX6 13 (TX6 3).1 (TX6 3).2.1 (TX6 3).2.2.1 ∈ wsX6_isFit := by decide +kernel
theorem fl_X6_isFit_16 : Cond.fieldLink RX6 16 (TX6 6).1 (TX6 6).2.1 (TX6 6).2.2.1 ∈ wsX6_isFit := by decide +kernel
theorem fl_X6_isFit_19 : Cond.fieldLink RX6 19 (TX6 7).1 (TX6 7).2.1 (TX6 7).2.2.1 ∈ wsX6_isFit := by decide +kernel
theorem fl_X6_isFit_48 : Cond.fieldLink RX6 48 (TX6 17).1 (TX6 17).2.1 (TX6 17).2.2.1 ∈ wsX6_isFit := by decide +kernel
theorem fl_X6_isFit_51 : Cond.fieldLink RX6 51 (TX6 18).1 (TX6 18).2.1 (TX6 18).2.2.1 ∈ wsX6_isFit := by decide +kernel
set_option maxHeartbeats 200000 in
set_option maxRecDepth 100000 in
theorem c_X6_isFit (l : Launch) {g : GW} {trace : Int64} {value : Nat → Int32} {draft : Nat → Int32} {typed : Int32} {vocables : Int32} {letter : Nat → Int32} {long1 : Nat → Int32} {feet : Nat → Int32} {sort : Nat → Int32} {order : Nat → Int32} {left : Nat → Int64} {opn : Nat → Int64} {own : Nat → Int32} {other : Nat → Int32} {pick : Nat → Int32} {parts : Int32} {frm : Nat → Int32} {size : Nat → Int32} {isYear : Nat → Int32} {isNext : Nat → Int32} {ways : Nat → Int64} {nextWays : Nat → Int64} (v : Nat) (part : Nat) (L nv : Nat) (hnv : nv ≤ 10) (hv : v < nv) (hL2 : L ≤ 40) (hpt : part < pn draft L) (hrow : prow2 draft L frm size) (hle : okV long1 nv 1 8) : Met l yX6_isFit wsX6_isFit ({ frames := 0, cells := 0, slots := 0, locals := 0 }) (va_Pc ([.ref (g.2.2 0), .int (nI (v)), .int (nI (part))]) (pW g (wM g trace value draft typed vocables letter long1 feet sort order left opn own other pick parts frm size isYear isNext ways nextWays))) (ro_Q (.int (if fitP draft letter long1 L part v then 1 else 0))) 0 0 (fun _ => False) := by
  refine Met.ofW (cc := cX6_isFit) (maxL := 6) (ret := (some .boolean)) (by decide) rfl ?_
  intro p e s m args below meth c s₁ B hml hv
  obtain ⟨rfl, hP, hK, hN⟩ := hv
  have hx := B.exec
  have hb := B.bytes
  have hr := B.returns
  have hts := atoms_spec (ws := wsX6_isFit) B.pre
  have hown : s.vm.findClass RX6 = some m.cls := findClass_of_methodNamed B.named
  have hlocks := B.notSynchronized
  have hl := lv_entry ([.ref (g.2.2 0), .int (nI (v)), .int (nI (part))]) (n := 6) (Nat.le_of_ble_eq_true rfl)
  rw [lg_entry_eq]
  generalize (lg_sl ([.ref (g.2.2 0), .int (nI (v)), .int (nI (part))]) ++ List.replicate (6 - (lg_sl ([.ref (g.2.2 0), .int (nI (v)), .int (nI (part))])).length) Slot.unset).toArray = ls at hl ⊢
  have hl : lv_has ls 6 [(0, .ref (g.2.2 0)), (1, .int (nI (v))), (2, .int (nI (part)))] := hl
  have hpr := hrow part hpt
  have hpe := pse draft L part hpt
  have hlv := hle v hv
  have hp20 := pn_room draft L
  have h81 : 8 * v = v * 8 := Nat.mul_comm 8 v
  refine lv_aload_n hx hb dX6_isFit_0 rfl (lv_at hl 0 rfl) ?_
  refine an_get (ci := 6) (v := .ref (g.2.2 4)) (C := RX6) (T := TX6) (N := 23) hx hb hts iw_X6_isFit_X6 hown hK hP 0 rfl rfl 7 (by decide) (hts _ fl_X6_isFit_19) rfl dX6_isFit_1 ?_
  refine lv_iload_n hx hb dX6_isFit_4 rfl (lv_at hl 1 rfl) ?_
  refine an_iald (f := long1) hx hb hK hP 4 0 rfl rfl (by decide) (by omega) dX6_isFit_5 ?_
  refine ln_toi (y := (nI (tn (long1 v)))) (hlv.1) ?_
  refine lv_aload_n hx hb dX6_isFit_6 rfl (lv_at hl 0 rfl) ?_
  refine an_get (ci := 6) (v := .ref (g.2.2 14)) (C := RX6) (T := TX6) (N := 23) hx hb hts iw_X6_isFit_X6 hown hK hP 0 rfl rfl 18 (by decide) (hts _ fl_X6_isFit_51) rfl dX6_isFit_7 ?_
  refine lv_iload_n hx hb dX6_isFit_10 rfl (lv_at hl 2 rfl) ?_
  refine an_iald (f := size) hx hb hK hP 14 0 rfl rfl (by decide) (by omega) dX6_isFit_11 ?_
  refine ln_toi (y := (nI (pex draft L part - psx draft L part))) (hpr.2) ?_
  refine lv_icmp_ne (tgt := 19) hx hb dX6_isFit_12 (by decide) (fun c_12 => ?_) (fun c_12 => ?_)
  · have c_12 := (not_congr (cv_eq_nn (by omega) (by omega))).mp c_12
    refine lv_iconst (v := (nI (0))) hx hb dX6_isFit_19 (by decide) ?_
    refine lv_istore_n (lv' := [(3, .int (nI (0))), (0, .ref (g.2.2 0)), (1, .int (nI (v))), (2, .int (nI (part)))]) hx hb dX6_isFit_20 rfl hl (by decide) rfl (fun ls hl => ?_)
    refine lv_iconst (v := (nI (0))) hx hb dX6_isFit_21 (by decide) ?_
    refine lv_istore (lv' := [(4, .int (nI (0))), (3, .int (nI (0))), (0, .ref (g.2.2 0)), (1, .int (nI (v))), (2, .int (nI (part)))]) hx hb dX6_isFit_22 hl (by decide) rfl (fun ls hl => ?_)
    have lp_24 : ∀ (n : Nat) (i : Nat) (q9 : Int32), (i ≤ tn (long1 v)) → ((q9 = nI 1 ∧ tn (long1 v) = pex draft L part - psx draft L part ∧ ∀ k, k < i → ((draft (psx draft L part + k)).toInt = 63 ∨ (draft (psx draft L part + k)).toInt = (letter (v * 8 + k)).toInt)) ∨ (q9 = nI 0 ∧ ¬ fitP draft letter long1 L part v)) → tn (long1 v) - i < n → ∀ (ls : Array Slot), lv_has ls 6 [(0, .ref (g.2.2 0)), (1, .int (nI (v))), (2, .int (nI (part))), (3, .int (q9)), (4, .int (nI (i)))] → W p l e (headSpec wsX6_isFit ({ frames := 0, cells := 0, slots := 0, locals := 0 })).room s m (([.ref (g.2.2 0), .int (nI (v)), .int (nI (part))] : List Value).toArray) below meth c s.heap [] 0 0 (MQ below (ro_Q (.int (if fitP draft letter long1 L part v then 1 else 0))) (([.ref (g.2.2 0), .int (nI (v)), .int (nI (part))] : List Value).toArray) s 0 0 (fun _ => False)) (F0 m 24 ls []) := by
      intro n
      induction n with
      | zero => intro i q9 hi hq hm; exact absurd hm (Nat.not_lt_zero _)
      | succ n ih_24 =>
        intro i q9 hi hq hm_24 ls hl
        refine lv_iload hx hb dX6_isFit_24 (lv_at hl 4 rfl) ?_
        refine lv_aload_n hx hb dX6_isFit_26 rfl (lv_at hl 0 rfl) ?_
        refine an_get (ci := 6) (v := .ref (g.2.2 4)) (C := RX6) (T := TX6) (N := 23) hx hb hts iw_X6_isFit_X6 hown hK hP 0 rfl rfl 7 (by decide) (hts _ fl_X6_isFit_19) rfl dX6_isFit_27 ?_
        refine lv_iload_n hx hb dX6_isFit_30 rfl (lv_at hl 1 rfl) ?_
        refine an_iald (f := long1) hx hb hK hP 4 0 rfl rfl (by decide) (by omega) dX6_isFit_31 ?_
        refine ln_toi (y := (nI (tn (long1 v)))) (hlv.1) ?_
        refine lv_icmp_ge (tgt := 91) hx hb dX6_isFit_32 (by decide) (fun c_32 => ?_) (fun c_32 => ?_)
        · have c_32 := (cv_le_nn (by omega) (by omega)).mp c_32
          refine lv_iload_n hx hb dX6_isFit_91 rfl (lv_at hl 3 rfl) ?_
          exact ro_zret hx hb hr hlocks (by rcases hq with h | h <;> rw [h.1] <;> rfl) (by rcases hq with ⟨h, h2, h3⟩ | ⟨h, h2⟩; (rw [h]; first | exact one_if ⟨h2, fun k hk => h3 k (by omega)⟩ | exact absurd c_36 (by rw [h]; decide)); (rw [h]; exact zero_if h2)) dX6_isFit_92
        · have c_32 := (not_congr (cv_le_nn (by omega) (by omega))).mp c_32
          refine lv_iload_n hx hb dX6_isFit_35 rfl (lv_at hl 3 rfl) ?_
          refine lv_if_eq (tgt := 91) hx hb dX6_isFit_36 (by decide) (fun c_36 => ?_) (fun c_36 => ?_)
          · have c_36 := (cz_eq_i).mp c_36
            refine lv_iload_n hx hb dX6_isFit_91 rfl (lv_at hl 3 rfl) ?_
            exact ro_zret hx hb hr hlocks (by rcases hq with h | h <;> rw [h.1] <;> rfl) (by rcases hq with ⟨h, h2, h3⟩ | ⟨h, h2⟩; (rw [h]; first | exact one_if ⟨h2, fun k hk => h3 k (by omega)⟩ | exact absurd c_36 (by rw [h]; decide)); (rw [h]; exact zero_if h2)) dX6_isFit_92
          · have c_36 := (not_congr (cz_eq_i)).mp c_36
            obtain ⟨hq1, hq2, hq3⟩ : q9 = nI 1 ∧ tn (long1 v) = pex draft L part - psx draft L part ∧ ∀ k, k < i → ((draft (psx draft L part + k)).toInt = 63 ∨ (draft (psx draft L part + k)).toInt = (letter (v * 8 + k)).toInt) := by rcases hq with h | h; (exact h); exact absurd (by rw [h.1]; rfl) c_36
            refine lv_aload_n hx hb dX6_isFit_39 rfl (lv_at hl 0 rfl) ?_
            refine an_get (ci := 6) (v := .ref (g.2.2 2)) (C := RX6) (T := TX6) (N := 23) hx hb hts iw_X6_isFit_X6 hown hK hP 0 rfl rfl 3 (by decide) (hts _ fl_X6_isFit_13) rfl dX6_isFit_40 ?_
            refine lv_aload_n hx hb dX6_isFit_43 rfl (lv_at hl 0 rfl) ?_
            refine an_get (ci := 6) (v := .ref (g.2.2 13)) (C := RX6) (T := TX6) (N := 23) hx hb hts iw_X6_isFit_X6 hown hK hP 0 rfl rfl 17 (by decide) (hts _ fl_X6_isFit_48) rfl dX6_isFit_44 ?_
            refine lv_iload_n hx hb dX6_isFit_47 rfl (lv_at hl 2 rfl) ?_
            refine an_iald (f := frm) hx hb hK hP 13 0 rfl rfl (by decide) (by omega) dX6_isFit_48 ?_
            refine ln_toi (y := (nI (psx draft L part))) (hpr.1) ?_
            refine lv_iload hx hb dX6_isFit_49 (lv_at hl 4 rfl) ?_
            refine ln_iadd hx hb dX6_isFit_51 ?_
            refine an_iald (f := draft) hx hb hK hP 2 0 rfl rfl (by decide) (by omega) dX6_isFit_52 ?_
            refine lv_istore (lv' := [(5, .int (draft ((psx draft L part) + i))), (0, .ref (g.2.2 0)), (1, .int (nI (v))), (2, .int (nI (part))), (3, .int (q9)), (4, .int (nI (i)))]) hx hb dX6_isFit_53 hl (by decide) rfl (fun ls hl => ?_)
            refine lv_iload hx hb dX6_isFit_55 (lv_at hl 0 rfl) ?_
            refine lv_bipush (v := (nI (63))) hx hb dX6_isFit_57 (by decide) ?_
            refine lv_icmp_eq (tgt := 79) hx hb dX6_isFit_59 (by decide) (fun c_59 => ?_) (fun c_59 => ?_)
            · have c_59 := (cv_eq_in (by omega)).mp c_59
              refine lv_iconst (v := (nI (1))) hx hb dX6_isFit_79 (by decide) ?_
              refine lv_goto (tgt := 84) hx hb dX6_isFit_80 (by decide) ?_
              refine lv_istore_n (lv' := [(3, .int (nI (1))), (5, .int (draft ((psx draft L part) + i))), (0, .ref (g.2.2 0)), (1, .int (nI (v))), (2, .int (nI (part))), (4, .int (nI (i)))]) hx hb dX6_isFit_84 rfl hl (by decide) rfl (fun ls hl => ?_)
              refine lv_iinc (v := (nI (i + 1))) (lv' := [(4, .int (nI (i + 1))), (3, .int (nI (1))), (5, .int (draft ((psx draft L part) + i))), (0, .ref (g.2.2 0)), (1, .int (nI (v))), (2, .int (nI (part)))]) hx hb dX6_isFit_85 hl (k := 5) rfl (nI_add _ 1) (by decide) rfl (fun ls hl => ?_)
              refine lv_goto (tgt := 24) hx hb dX6_isFit_88 (by decide) ?_
              exact ih_24 (i + 1) (nI 1) (by omega) (Or.inl ⟨rfl, hq2, lt_s hq3 (Or.inl (by omega))⟩) (by omega) ls (lv_sub hl [3, 4, 5, 1, 0] rfl)
            · have c_59 := (not_congr (cv_eq_in (by omega))).mp c_59
              refine lv_iload hx hb dX6_isFit_62 (lv_at hl 0 rfl) ?_
              refine lv_aload_n hx hb dX6_isFit_64 rfl (lv_at hl 1 rfl) ?_
              refine an_get (ci := 6) (v := .ref (g.2.2 3)) (C := RX6) (T := TX6) (N := 23) hx hb hts iw_X6_isFit_X6 hown hK hP 0 rfl rfl 6 (by decide) (hts _ fl_X6_isFit_16) rfl dX6_isFit_65 ?_
              refine lv_bipush (v := (nI (8))) hx hb dX6_isFit_68 (by decide) ?_
              refine lv_iload_n hx hb dX6_isFit_70 rfl (lv_at hl 2 rfl) ?_
              refine ln_imul hx hb dX6_isFit_71 ?_
              refine lv_iload hx hb dX6_isFit_72 (lv_at hl 5 rfl) ?_
              refine ln_iadd hx hb dX6_isFit_74 ?_
              refine an_iald (f := letter) hx hb hK hP 3 0 rfl rfl (by decide) (by omega) dX6_isFit_75 ?_
              refine lv_icmp_ne (tgt := 83) hx hb dX6_isFit_76 (by decide) (fun c_76 => ?_) (fun c_76 => ?_)
              · have c_76 := (not_congr (cv_eq_ii )).mp c_76
                refine lv_iconst (v := (nI (0))) hx hb dX6_isFit_83 (by decide) ?_
                refine lv_istore_n (lv' := [(3, .int (nI (0))), (5, .int (draft ((psx draft L part) + i))), (0, .ref (g.2.2 0)), (1, .int (nI (v))), (2, .int (nI (part))), (4, .int (nI (i)))]) hx hb dX6_isFit_84 rfl hl (by decide) rfl (fun ls hl => ?_)
                refine lv_iinc (v := (nI (i + 1))) (lv' := [(4, .int (nI (i + 1))), (3, .int (nI (0))), (5, .int (draft ((psx draft L part) + i))), (0, .ref (g.2.2 0)), (1, .int (nI (v))), (2, .int (nI (part)))]) hx hb dX6_isFit_85 hl (k := 5) rfl (nI_add _ 1) (by decide) rfl (fun ls hl => ?_)
                refine lv_goto (tgt := 24) hx hb dX6_isFit_88 (by decide) ?_
                exact ih_24 (i + 1) (nI 0) (by omega) (Or.inr ⟨rfl, fun z => absurd (z.2 i (by omega)) (by rw [← h81]; omega)⟩) (by omega) ls (lv_sub hl [3, 4, 5, 1, 0] rfl)
              · have c_76 := (cv_eq_ii ).mp c_76
                refine lv_iconst (v := (nI (1))) hx hb dX6_isFit_79 (by decide) ?_
                refine lv_goto (tgt := 84) hx hb dX6_isFit_80 (by decide) ?_
                refine lv_istore_n (lv' := [(3, .int (nI (1))), (5, .int (draft ((psx draft L part) + i))), (0, .ref (g.2.2 0)), (1, .int (nI (v))), (2, .int (nI (part))), (4, .int (nI (i)))]) hx hb dX6_isFit_84 rfl hl (by decide) rfl (fun ls hl => ?_)
                refine lv_iinc (v := (nI (i + 1))) (lv' := [(4, .int (nI (i + 1))), (3, .int (nI (1))), (5, .int (draft ((psx draft L part) + i))), (0, .ref (g.2.2 0)), (1, .int (nI (v))), (2, .int (nI (part)))]) hx hb dX6_isFit_85 hl (k := 5) rfl (nI_add _ 1) (by decide) rfl (fun ls hl => ?_)
                refine lv_goto (tgt := 24) hx hb dX6_isFit_88 (by decide) ?_
                exact ih_24 (i + 1) (nI 1) (by omega) (Or.inl ⟨rfl, hq2, lt_s hq3 (Or.inr (by rw [← h81]; omega))⟩) (by omega) ls (lv_sub hl [3, 4, 5, 1, 0] rfl)
    exact lp_24 (tn (long1 v) - (0) + 1) 0 (nI 0) (Nat.zero_le _) (Or.inr ⟨rfl, fun z => absurd z.1 c_12⟩) (Nat.lt_succ_self _) ls (lv_sub hl [2, 3, 4, 1, 0] rfl)
  · have c_12 := (cv_eq_nn (by omega) (by omega)).mp c_12
    refine lv_iconst (v := (nI (1))) hx hb dX6_isFit_15 (by decide) ?_
    refine lv_goto (tgt := 20) hx hb dX6_isFit_16 (by decide) ?_
    refine lv_istore_n (lv' := [(3, .int (nI (1))), (0, .ref (g.2.2 0)), (1, .int (nI (v))), (2, .int (nI (part)))]) hx hb dX6_isFit_20 rfl hl (by decide) rfl (fun ls hl => ?_)
    refine lv_iconst (v := (nI (0))) hx hb dX6_isFit_21 (by decide) ?_
    refine lv_istore (lv' := [(4, .int (nI (0))), (3, .int (nI (1))), (0, .ref (g.2.2 0)), (1, .int (nI (v))), (2, .int (nI (part)))]) hx hb dX6_isFit_22 hl (by decide) rfl (fun ls hl => ?_)
    have lp_24 : ∀ (n : Nat) (i : Nat) (q9 : Int32), (i ≤ tn (long1 v)) → ((q9 = nI 1 ∧ tn (long1 v) = pex draft L part - psx draft L part ∧ ∀ k, k < i → ((draft (psx draft L part + k)).toInt = 63 ∨ (draft (psx draft L part + k)).toInt = (letter (v * 8 + k)).toInt)) ∨ (q9 = nI 0 ∧ ¬ fitP draft letter long1 L part v)) → tn (long1 v) - i < n → ∀ (ls : Array Slot), lv_has ls 6 [(0, .ref (g.2.2 0)), (1, .int (nI (v))), (2, .int (nI (part))), (3, .int (q9)), (4, .int (nI (i)))] → W p l e (headSpec wsX6_isFit ({ frames := 0, cells := 0, slots := 0, locals := 0 })).room s m (([.ref (g.2.2 0), .int (nI (v)), .int (nI (part))] : List Value).toArray) below meth c s.heap [] 0 0 (MQ below (ro_Q (.int (if fitP draft letter long1 L part v then 1 else 0))) (([.ref (g.2.2 0), .int (nI (v)), .int (nI (part))] : List Value).toArray) s 0 0 (fun _ => False)) (F0 m 24 ls []) := by
      intro n
      induction n with
      | zero => intro i q9 hi hq hm; exact absurd hm (Nat.not_lt_zero _)
      | succ n ih_24 =>
        intro i q9 hi hq hm_24 ls hl
        refine lv_iload hx hb dX6_isFit_24 (lv_at hl 4 rfl) ?_
        refine lv_aload_n hx hb dX6_isFit_26 rfl (lv_at hl 0 rfl) ?_
        refine an_get (ci := 6) (v := .ref (g.2.2 4)) (C := RX6) (T := TX6) (N := 23) hx hb hts iw_X6_isFit_X6 hown hK hP 0 rfl rfl 7 (by decide) (hts _ fl_X6_isFit_19) rfl dX6_isFit_27 ?_
        refine lv_iload_n hx hb dX6_isFit_30 rfl (lv_at hl 1 rfl) ?_
        refine an_iald (f := long1) hx hb hK hP 4 0 rfl rfl (by decide) (by omega) dX6_isFit_31 ?_
        refine ln_toi (y := (nI (tn (long1 v)))) (hlv.1) ?_
        refine lv_icmp_ge (tgt := 91) hx hb dX6_isFit_32 (by decide) (fun c_32 => ?_) (fun c_32 => ?_)
        · have c_32 := (cv_le_nn (by omega) (by omega)).mp c_32
          refine lv_iload_n hx hb dX6_isFit_91 rfl (lv_at hl 3 rfl) ?_
          exact ro_zret hx hb hr hlocks (by rcases hq with h | h <;> rw [h.1] <;> rfl) (by rcases hq with ⟨h, h2, h3⟩ | ⟨h, h2⟩; (rw [h]; first | exact one_if ⟨h2, fun k hk => h3 k (by omega)⟩ | exact absurd c_36 (by rw [h]; decide)); (rw [h]; exact zero_if h2)) dX6_isFit_92
        · have c_32 := (not_congr (cv_le_nn (by omega) (by omega))).mp c_32
          refine lv_iload_n hx hb dX6_isFit_35 rfl (lv_at hl 3 rfl) ?_
          refine lv_if_eq (tgt := 91) hx hb dX6_isFit_36 (by decide) (fun c_36 => ?_) (fun c_36 => ?_)
          · have c_36 := (cz_eq_i).mp c_36
            refine lv_iload_n hx hb dX6_isFit_91 rfl (lv_at hl 3 rfl) ?_
            exact ro_zret hx hb hr hlocks (by rcases hq with h | h <;> rw [h.1] <;> rfl) (by rcases hq with ⟨h, h2, h3⟩ | ⟨h, h2⟩; (rw [h]; first | exact one_if ⟨h2, fun k hk => h3 k (by omega)⟩ | exact absurd c_36 (by rw [h]; decide)); (rw [h]; exact zero_if h2)) dX6_isFit_92
          · have c_36 := (not_congr (cz_eq_i)).mp c_36
            obtain ⟨hq1, hq2, hq3⟩ : q9 = nI 1 ∧ tn (long1 v) = pex draft L part - psx draft L part ∧ ∀ k, k < i → ((draft (psx draft L part + k)).toInt = 63 ∨ (draft (psx draft L part + k)).toInt = (letter (v * 8 + k)).toInt) := by rcases hq with h | h; (exact h); exact absurd (by rw [h.1]; rfl) c_36
            refine lv_aload_n hx hb dX6_isFit_39 rfl (lv_at hl 0 rfl) ?_
            refine an_get (ci := 6) (v := .ref (g.2.2 2)) (C := RX6) (T := TX6) (N := 23) hx hb hts iw_X6_isFit_X6 hown hK hP 0 rfl rfl 3 (by decide) (hts _ fl_X6_isFit_13) rfl dX6_isFit_40 ?_
            refine lv_aload_n hx hb dX6_isFit_43 rfl (lv_at hl 0 rfl) ?_
            refine an_get (ci := 6) (v := .ref (g.2.2 13)) (C := RX6) (T := TX6) (N := 23) hx hb hts iw_X6_isFit_X6 hown hK hP 0 rfl rfl 17 (by decide) (hts _ fl_X6_isFit_48) rfl dX6_isFit_44 ?_
            refine lv_iload_n hx hb dX6_isFit_47 rfl (lv_at hl 2 rfl) ?_
            refine an_iald (f := frm) hx hb hK hP 13 0 rfl rfl (by decide) (by omega) dX6_isFit_48 ?_
            refine ln_toi (y := (nI (psx draft L part))) (hpr.1) ?_
            refine lv_iload hx hb dX6_isFit_49 (lv_at hl 4 rfl) ?_
            refine ln_iadd hx hb dX6_isFit_51 ?_
            refine an_iald (f := draft) hx hb hK hP 2 0 rfl rfl (by decide) (by omega) dX6_isFit_52 ?_
            refine lv_istore (lv' := [(5, .int (draft ((psx draft L part) + i))), (0, .ref (g.2.2 0)), (1, .int (nI (v))), (2, .int (nI (part))), (3, .int (q9)), (4, .int (nI (i)))]) hx hb dX6_isFit_53 hl (by decide) rfl (fun ls hl => ?_)
            refine lv_iload hx hb dX6_isFit_55 (lv_at hl 0 rfl) ?_
            refine lv_bipush (v := (nI (63))) hx hb dX6_isFit_57 (by decide) ?_
            refine lv_icmp_eq (tgt := 79) hx hb dX6_isFit_59 (by decide) (fun c_59 => ?_) (fun c_59 => ?_)
            · have c_59 := (cv_eq_in (by omega)).mp c_59
              refine lv_iconst (v := (nI (1))) hx hb dX6_isFit_79 (by decide) ?_
              refine lv_goto (tgt := 84) hx hb dX6_isFit_80 (by decide) ?_
              refine lv_istore_n (lv' := [(3, .int (nI (1))), (5, .int (draft ((psx draft L part) + i))), (0, .ref (g.2.2 0)), (1, .int (nI (v))), (2, .int (nI (part))), (4, .int (nI (i)))]) hx hb dX6_isFit_84 rfl hl (by decide) rfl (fun ls hl => ?_)
              refine lv_iinc (v := (nI (i + 1))) (lv' := [(4, .int (nI (i + 1))), (3, .int (nI (1))), (5, .int (draft ((psx draft L part) + i))), (0, .ref (g.2.2 0)), (1, .int (nI (v))), (2, .int (nI (part)))]) hx hb dX6_isFit_85 hl (k := 5) rfl (nI_add _ 1) (by decide) rfl (fun ls hl => ?_)
              refine lv_goto (tgt := 24) hx hb dX6_isFit_88 (by decide) ?_
              exact ih_24 (i + 1) (nI 1) (by omega) (Or.inl ⟨rfl, hq2, lt_s hq3 (Or.inl (by omega))⟩) (by omega) ls (lv_sub hl [3, 4, 5, 1, 0] rfl)
            · have c_59 := (not_congr (cv_eq_in (by omega))).mp c_59
              refine lv_iload hx hb dX6_isFit_62 (lv_at hl 0 rfl) ?_
              refine lv_aload_n hx hb dX6_isFit_64 rfl (lv_at hl 1 rfl) ?_
              refine an_get (ci := 6) (v := .ref (g.2.2 3)) (C := RX6) (T := TX6) (N := 23) hx hb hts iw_X6_isFit_X6 hown hK hP 0 rfl rfl 6 (by decide) (hts _ fl_X6_isFit_16) rfl dX6_isFit_65 ?_
              refine lv_bipush (v := (nI (8))) hx hb dX6_isFit_68 (by decide) ?_
              refine lv_iload_n hx hb dX6_isFit_70 rfl (lv_at hl 2 rfl) ?_
              refine ln_imul hx hb dX6_isFit_71 ?_
              refine lv_iload hx hb dX6_isFit_72 (lv_at hl 5 rfl) ?_
              refine ln_iadd hx hb dX6_isFit_74 ?_
              refine an_iald (f := letter) hx hb hK hP 3 0 rfl rfl (by decide) (by omega) dX6_isFit_75 ?_
              refine lv_icmp_ne (tgt := 83) hx hb dX6_isFit_76 (by decide) (fun c_76 => ?_) (fun c_76 => ?_)
              · have c_76 := (not_congr (cv_eq_ii )).mp c_76
                refine lv_iconst (v := (nI (0))) hx hb dX6_isFit_83 (by decide) ?_
                refine lv_istore_n (lv' := [(3, .int (nI (0))), (5, .int (draft ((psx draft L part) + i))), (0, .ref (g.2.2 0)), (1, .int (nI (v))), (2, .int (nI (part))), (4, .int (nI (i)))]) hx hb dX6_isFit_84 rfl hl (by decide) rfl (fun ls hl => ?_)
                refine lv_iinc (v := (nI (i + 1))) (lv' := [(4, .int (nI (i + 1))), (3, .int (nI (0))), (5, .int (draft ((psx draft L part) + i))), (0, .ref (g.2.2 0)), (1, .int (nI (v))), (2, .int (nI (part)))]) hx hb dX6_isFit_85 hl (k := 5) rfl (nI_add _ 1) (by decide) rfl (fun ls hl => ?_)
                refine lv_goto (tgt := 24) hx hb dX6_isFit_88 (by decide) ?_
                exact ih_24 (i + 1) (nI 0) (by omega) (Or.inr ⟨rfl, fun z => absurd (z.2 i (by omega)) (by rw [← h81]; omega)⟩) (by omega) ls (lv_sub hl [3, 4, 5, 1, 0] rfl)
              · have c_76 := (cv_eq_ii ).mp c_76
                refine lv_iconst (v := (nI (1))) hx hb dX6_isFit_79 (by decide) ?_
                refine lv_goto (tgt := 84) hx hb dX6_isFit_80 (by decide) ?_
                refine lv_istore_n (lv' := [(3, .int (nI (1))), (5, .int (draft ((psx draft L part) + i))), (0, .ref (g.2.2 0)), (1, .int (nI (v))), (2, .int (nI (part))), (4, .int (nI (i)))]) hx hb dX6_isFit_84 rfl hl (by decide) rfl (fun ls hl => ?_)
                refine lv_iinc (v := (nI (i + 1))) (lv' := [(4, .int (nI (i + 1))), (3, .int (nI (1))), (5, .int (draft ((psx draft L part) + i))), (0, .ref (g.2.2 0)), (1, .int (nI (v))), (2, .int (nI (part)))]) hx hb dX6_isFit_85 hl (k := 5) rfl (nI_add _ 1) (by decide) rfl (fun ls hl => ?_)
                refine lv_goto (tgt := 24) hx hb dX6_isFit_88 (by decide) ?_
                exact ih_24 (i + 1) (nI 1) (by omega) (Or.inl ⟨rfl, hq2, lt_s hq3 (Or.inr (by rw [← h81]; omega))⟩) (by omega) ls (lv_sub hl [3, 4, 5, 1, 0] rfl)
    exact lp_24 (tn (long1 v) - (0) + 1) 0 (nI 1) (Nat.zero_le _) (Or.inl ⟨rfl, c_12, fun k hk => absurd hk (Nat.not_lt_zero k)⟩) (Nat.lt_succ_self _) ls (lv_sub hl [2, 3, 4, 1, 0] rfl)
theorem iw_X6_owns_X6 : ∀ w ∈ u_ws RX6 TX6 23, w ∈ wsX6_owns := by decide +kernel
theorem fl_X6_owns_16 : Cond.fieldLink RX6 16 (TX6 6).1 (TX6 6).2.1 (TX6 6).2.2.1 ∈ wsX6_owns := by decide +kernel
theorem fl_X6_owns_19 : Cond.fieldLink RX6 19 (TX6 7).1 (TX6 7).2.1 (TX6 7).2.2.1 ∈ wsX6_owns := by decide +kernel
theorem fl_X6_owns_124 : Cond.fieldLink RX6 124 (TX6 5).1 (TX6 5).2.1 (TX6 5).2.2.1 ∈ wsX6_owns := by decide +kernel
set_option maxHeartbeats 200000 in
set_option maxRecDepth 100000 in
theorem c_X6_owns_own (l : Launch) {g : GW} {trace : Int64} {value : Nat → Int32} {draft : Nat → Int32} {typed : Int32} {nv : Nat} {letter : Nat → Int32} {long1 : Nat → Int32} {feet : Nat → Int32} {sort : Nat → Int32} {order : Nat → Int32} {left : Nat → Int64} {opn : Nat → Int64} {own : Nat → Int32} {other : Nat → Int32} {pick : Nat → Int32} {parts : Int32} {frm : Nat → Int32} {size : Nat → Int32} {isYear : Nat → Int32} {isNext : Nat → Int32} {ways : Nat → Int64} {nextWays : Nat → Int64} {sz : Nat} (counting : Nat) (custom : Nat) (hc : counting < 3) (hk : custom < 4) (hnv : nv ≤ 10) (hle : okV long1 nv 1 8) (hd : dW 19 g.2.2) : Met l yX6_owns wsX6_owns ({ frames := 4, cells := 0, slots := 0, locals := 89 }) (va_Pc ([.ref (g.2.2 0), .int (nI (counting)), .int (nI (custom)), .ref (g.2.2 10)]) (qW g (wM g trace value draft typed (nI (nv)) letter long1 feet sort order left opn own other pick parts frm size isYear isNext ways nextWays) sz)) (va_Qv (fun (z : (Nat → Int32)) => ∀ v, v < nv → z v = vsm value letter long1 counting custom v) (fun (z : (Nat → Int32)) (t : State) => va_P g.1 vwCl (wM g trace value draft typed (nI (nv)) letter long1 feet sort order left opn z other pick parts frm size isYear isNext ways nextWays) t.heap) (aW 19 g.2.2 sz)) 0 0 (aW 19 g.2.2 sz) := by
  refine Met.ofW (cc := cX6_owns) (maxL := 6) (ret := none) (by decide) rfl ?_
  intro p e s m args below meth c s₁ B hml hv
  obtain ⟨rfl, hsz9, hP, hK, hN⟩ := hv
  subst hsz9
  have hx := B.exec
  have hb := B.bytes
  have hr := B.returns
  have hts := atoms_spec (ws := wsX6_owns) B.pre
  have hown : s.vm.findClass RX6 = some m.cls := findClass_of_methodNamed B.named
  have hlocks := B.notSynchronized
  have hS : va_S (aW 19 g.2.2 s.heap.size) s.heap s.heap [] := va_S.rf
  have hl := lv_entry ([.ref (g.2.2 0), .int (nI (counting)), .int (nI (custom)), .ref (g.2.2 10)]) (n := 6) (Nat.le_of_ble_eq_true rfl)
  rw [lg_entry_eq]
  generalize (lg_sl ([.ref (g.2.2 0), .int (nI (counting)), .int (nI (custom)), .ref (g.2.2 10)]) ++ List.replicate (6 - (lg_sl ([.ref (g.2.2 0), .int (nI (counting)), .int (nI (custom)), .ref (g.2.2 10)])).length) Slot.unset).toArray = ls at hl ⊢
  have hl : lv_has ls 6 [(0, .ref (g.2.2 0)), (1, .int (nI (counting))), (2, .int (nI (custom))), (3, .ref (g.2.2 10))] := hl
  refine lv_iconst (v := (nI (0))) hx hb dX6_owns_0 (by decide) ?_
  refine lv_istore (lv' := [(4, .int (nI (0))), (0, .ref (g.2.2 0)), (1, .int (nI (counting))), (2, .int (nI (custom))), (3, .ref (g.2.2 10))]) hx hb dX6_owns_1 hl (by decide) rfl (fun ls hl => ?_)
  have lp_3 : ∀ (n : Nat) (i : Nat) (u : Nat → Int32), (i ≤ nv) → (∀ v, v < i → u v = vsm value letter long1 counting custom v) → nv - i < n → ∀ (H : Heap) (locs : List Loc), va_P g.1 vwCl (wM g trace value draft typed (nI (nv)) letter long1 feet sort order left opn u other pick parts frm size isYear isNext ways nextWays) H → va_S (aW 19 g.2.2 s.heap.size) s.heap H locs → ∀ (ls : Array Slot), lv_has ls 6 [(0, .ref (g.2.2 0)), (1, .int (nI (counting))), (2, .int (nI (custom))), (3, .ref (g.2.2 10)), (4, .int (nI (i)))] → W p l e (headSpec wsX6_owns ({ frames := 4, cells := 0, slots := 0, locals := 89 })).room s m (([.ref (g.2.2 0), .int (nI (counting)), .int (nI (custom)), .ref (g.2.2 10)] : List Value).toArray) below meth c H locs 0 0 (MQ below (va_Qv (fun (z : (Nat → Int32)) => ∀ v, v < nv → z v = vsm value letter long1 counting custom v) (fun (z : (Nat → Int32)) (t : State) => va_P g.1 vwCl (wM g trace value draft typed (nI (nv)) letter long1 feet sort order left opn z other pick parts frm size isYear isNext ways nextWays) t.heap) (aW 19 g.2.2 s.heap.size)) (([.ref (g.2.2 0), .int (nI (counting)), .int (nI (custom)), .ref (g.2.2 10)] : List Value).toArray) s 0 0 (aW 19 g.2.2 s.heap.size)) (F0 m 3 ls []) := by
    intro n
    induction n with
    | zero => intro i u hi hu hm; exact absurd hm (Nat.not_lt_zero _)
    | succ n ih_3 =>
      intro i u hi hu hm_3 H locs hP hS ls hl
      refine lv_iload hx hb dX6_owns_3 (lv_at hl 4 rfl) ?_
      refine lv_aload_n hx hb dX6_owns_5 rfl (lv_at hl 0 rfl) ?_
      refine an_get (ci := 6) (v := .int (nI (nv))) (C := RX6) (T := TX6) (N := 23) hx hb hts iw_X6_owns_X6 hown hK hP 0 rfl rfl 5 (by decide) (hts _ fl_X6_owns_124) rfl dX6_owns_6 ?_
      refine lv_icmp_ge (tgt := 95) hx hb dX6_owns_9 (by decide) (fun c_9 => ?_) (fun c_9 => ?_)
      · have c_9 := (cv_le_nn (by omega) (by omega)).mp c_9
        exact wr_vret (u) hx hb hr hlocks (fun v hv => hu v (by omega)) (fun t ht => show va_P g.1 vwCl (wM g trace value draft typed (nI (nv)) letter long1 feet sort order left opn u other pick parts frm size isYear isNext ways nextWays) t.heap by rw [ht]; exact hP) hS dX6_owns_95
      · have c_9 := (not_congr (cv_le_nn (by omega) (by omega))).mp c_9
        refine lv_aload_n hx hb dX6_owns_12 rfl (lv_at hl 3 rfl) ?_
        refine lv_iload hx hb dX6_owns_13 (lv_at hl 4 rfl) ?_
        refine lv_iconst (v := (nI (0))) hx hb dX6_owns_15 (by decide) ?_
        refine an_iast (f := u) (ws' := (wM g trace value draft typed (nI (nv)) letter long1 feet sort order left opn (upd (u) (i) (nI (0))) other pick parts frm size isYear isNext ways nextWays)) hx hb hK hP (wM_D hd) hS 10 0 rfl rfl (by decide) (by omega) rfl dX6_owns_16 (fun H locs hP hS => ?_)
        refine lv_iconst (v := (nI (0))) hx hb dX6_owns_17 (by decide) ?_
        refine lv_istore (lv' := [(5, .int (nI (0))), (0, .ref (g.2.2 0)), (1, .int (nI (counting))), (2, .int (nI (custom))), (3, .ref (g.2.2 10)), (4, .int (nI (i)))]) hx hb dX6_owns_18 hl (by decide) rfl (fun ls hl => ?_)
        have lp_20 : ∀ (n : Nat) (k : Nat) (u2 : Nat → Int32), (k ≤ tn (long1 i)) → (∀ v, v < i → u2 v = vsm value letter long1 counting custom v) → (u2 i = smv value counting custom letter (8 * i) k) → tn (long1 i) - k < n → ∀ (H : Heap) (locs : List Loc), va_P g.1 vwCl (wM g trace value draft typed (nI (nv)) letter long1 feet sort order left opn u2 other pick parts frm size isYear isNext ways nextWays) H → va_S (aW 19 g.2.2 s.heap.size) s.heap H locs → ∀ (ls : Array Slot), lv_has ls 6 [(0, .ref (g.2.2 0)), (1, .int (nI (counting))), (2, .int (nI (custom))), (3, .ref (g.2.2 10)), (4, .int (nI (i))), (5, .int (nI (k)))] → W p l e (headSpec wsX6_owns ({ frames := 4, cells := 0, slots := 0, locals := 89 })).room s m (([.ref (g.2.2 0), .int (nI (counting)), .int (nI (custom)), .ref (g.2.2 10)] : List Value).toArray) below meth c H locs 0 0 (MQ below (va_Qv (fun (z : (Nat → Int32)) => ∀ v, v < nv → z v = vsm value letter long1 counting custom v) (fun (z : (Nat → Int32)) (t : State) => va_P g.1 vwCl (wM g trace value draft typed (nI (nv)) letter long1 feet sort order left opn z other pick parts frm size isYear isNext ways nextWays) t.heap) (aW 19 g.2.2 s.heap.size)) (([.ref (g.2.2 0), .int (nI (counting)), .int (nI (custom)), .ref (g.2.2 10)] : List Value).toArray) s 0 0 (aW 19 g.2.2 s.heap.size)) (F0 m 20 ls []) := by
          intro n
          induction n with
          | zero => intro k u2 hk2 hu2 hu3 hm; exact absurd hm (Nat.not_lt_zero _)
          | succ n ih_20 =>
            intro k u2 hk2 hu2 hu3 hm_20 H locs hP hS ls hl
            refine lv_iload hx hb dX6_owns_20 (lv_at hl 5 rfl) ?_
            refine lv_aload_n hx hb dX6_owns_22 rfl (lv_at hl 0 rfl) ?_
            refine an_get (ci := 6) (v := .ref (g.2.2 4)) (C := RX6) (T := TX6) (N := 23) hx hb hts iw_X6_owns_X6 hown hK hP 0 rfl rfl 7 (by decide) (hts _ fl_X6_owns_19) rfl dX6_owns_23 ?_
            refine lv_iload hx hb dX6_owns_26 (lv_at hl 4 rfl) ?_
            have hl8 := hle i (by omega)
            refine an_iald (f := long1) hx hb hK hP 4 0 rfl rfl (by decide) (by omega) dX6_owns_28 ?_
            refine ln_toi (y := (nI (tn (long1 i)))) (hl8.1) ?_
            refine lv_icmp_ge (tgt := 89) hx hb dX6_owns_29 (by decide) (fun c_29 => ?_) (fun c_29 => ?_)
            · have c_29 := (cv_le_nn (by omega) (by omega)).mp c_29
              refine lv_iinc (v := (nI (i + 1))) (lv' := [(4, .int (nI (i + 1))), (0, .ref (g.2.2 0)), (1, .int (nI (counting))), (2, .int (nI (custom))), (3, .ref (g.2.2 10)), (5, .int (nI (k)))]) hx hb dX6_owns_89 hl (k := 4) rfl (nI_add _ 1) (by decide) rfl (fun ls hl => ?_)
              refine lv_goto (tgt := 3) hx hb dX6_owns_92 (by decide) ?_
              exact ih_3 (i + 1) u2 (by omega) (lt_s hu2 (by rw [hu3]; exact vsm_e (by omega))) (by omega) _ _ hP hS ls (lv_sub hl [1, 2, 3, 4, 0] rfl)
            · have c_29 := (not_congr (cv_le_nn (by omega) (by omega))).mp c_29
              refine lv_aload_n hx hb dX6_owns_32 rfl (lv_at hl 3 rfl) ?_
              refine lv_iload hx hb dX6_owns_33 (lv_at hl 4 rfl) ?_
              refine lv_dup2_11 hx hb dX6_owns_35 rfl rfl ?_
              refine an_iald (f := u2) hx hb hK hP 10 0 rfl rfl (by decide) (by omega) dX6_owns_36 ?_
              refine ln_toi (y := (smv value counting custom letter (8 * i) k)) (hu3) ?_
              refine lv_aload_n hx hb dX6_owns_37 rfl (lv_at hl 0 rfl) ?_
              refine lv_iload_n hx hb dX6_owns_38 rfl (lv_at hl 1 rfl) ?_
              refine lv_iload_n hx hb dX6_owns_39 rfl (lv_at hl 2 rfl) ?_
              refine lv_aload_n hx hb dX6_owns_40 rfl (lv_at hl 0 rfl) ?_
              refine an_get (ci := 6) (v := .ref (g.2.2 3)) (C := RX6) (T := TX6) (N := 23) hx hb hts iw_X6_owns_X6 hown hK hP 0 rfl rfl 6 (by decide) (hts _ fl_X6_owns_16) rfl dX6_owns_41 ?_
              refine lv_bipush (v := (nI (8))) hx hb dX6_owns_44 (by decide) ?_
              refine lv_iload hx hb dX6_owns_46 (lv_at hl 4 rfl) ?_
              refine ln_imul hx hb dX6_owns_48 ?_
              refine lv_iload hx hb dX6_owns_49 (lv_at hl 5 rfl) ?_
              refine ln_iadd hx hb dX6_owns_51 ?_
              refine an_iald (f := letter) hx hb hK hP 3 0 rfl rfl (by decide) (by omega) dX6_owns_52 ?_
              refine lv_iload hx hb dX6_owns_53 (lv_at hl 5 rfl) ?_
              refine lv_if_ne (tgt := 63) hx hb dX6_owns_55 (by decide) (fun c_55 => ?_) (fun c_55 => ?_)
              · have c_55 := (not_congr (cz_eq_n (by omega))).mp c_55
                refine lv_aload_n hx hb dX6_owns_63 rfl (lv_at hl 0 rfl) ?_
                refine an_get (ci := 6) (v := .ref (g.2.2 3)) (C := RX6) (T := TX6) (N := 23) hx hb hts iw_X6_owns_X6 hown hK hP 0 rfl rfl 6 (by decide) (hts _ fl_X6_owns_16) rfl dX6_owns_64 ?_
                refine lv_bipush (v := (nI (8))) hx hb dX6_owns_67 (by decide) ?_
                refine lv_iload hx hb dX6_owns_69 (lv_at hl 4 rfl) ?_
                refine ln_imul hx hb dX6_owns_71 ?_
                refine lv_iload hx hb dX6_owns_72 (lv_at hl 5 rfl) ?_
                refine ln_iadd hx hb dX6_owns_74 ?_
                refine lv_iconst (v := (nI (1))) hx hb dX6_owns_75 (by decide) ?_
                refine ln_isub hx hb (by omega) dX6_owns_76 ?_
                refine an_iald (f := letter) hx hb hK hP 3 0 rfl rfl (by decide) (by omega) dX6_owns_77 ?_
                refine ln_toi (y := (ahd letter (8 * i) k)) (ahd_p2 c_55) ?_
                refine ro_call (va_runV (As := [.int (nI (counting)), .int (nI (custom)), .int (letter ((8 * i) + k)), .int (ahd letter (8 * i) k)]) (rest := [.int (smv value counting custom letter (8 * i) k), .int (nI (i)), .ref (g.2.2 10)]) ⟨hx, hb, hml, hown, hts⟩ (c_X6_worthOf l (g := g) (trace := trace) (value := value) (draft := draft) (typed := typed) (vocables := nI (nv)) (letter := letter) (long1 := long1) (feet := feet) (sort := sort) (order := order) (left := left) (opn := opn) (own := u2) (other := other) (pick := pick) (parts := parts) (frm := frm) (size := size) (isYear := isYear) (isNext := isNext) (ways := ways) (nextWays := nextWays) (counting) (custom) (letter ((8 * i) + k)) (ahd letter (8 * i) k) hc hk) (cwV 4 hts gX6_owns_X6_worthOf rfl rfl rfl (by decide +kernel) ⟨Nat.le_of_ble_eq_true rfl, Nat.le_of_ble_eq_true rfl⟩) (pre_V pW_bl (va_recv hK hP (ci := 6) (q0 := 0) rfl rfl) (fun U hU hW => pW_of hP hK hN hU hW)) rfl rfl hl.1 rfl (lv_room (Nat.le_of_ble_eq_true rfl)) dX6_owns_78 ⟨Nat.zero_le _, Nat.zero_le _⟩) ?_
                refine lv_iadd hx hb dX6_owns_81 ?_
                refine ln_toi (y := (smv value counting custom letter (8 * i) (k + 1))) (rfl) ?_
                refine an_iast (f := u2) (ws' := (wM g trace value draft typed (nI (nv)) letter long1 feet sort order left opn (upd (u2) (i) (smv value counting custom letter (8 * i) (k + 1))) other pick parts frm size isYear isNext ways nextWays)) hx hb hK hP (wM_D hd) hS 10 0 rfl rfl (by decide) (by omega) rfl dX6_owns_82 (fun H locs hP hS => ?_)
                refine lv_iinc (v := (nI (k + 1))) (lv' := [(5, .int (nI (k + 1))), (0, .ref (g.2.2 0)), (1, .int (nI (counting))), (2, .int (nI (custom))), (3, .ref (g.2.2 10)), (4, .int (nI (i)))]) hx hb dX6_owns_83 hl (k := 5) rfl (nI_add _ 1) (by decide) rfl (fun ls hl => ?_)
                refine lv_goto (tgt := 20) hx hb dX6_owns_86 (by decide) ?_
                exact ih_20 (k + 1) (upd u2 i (smv value counting custom letter (8 * i) (k + 1))) (by omega) (fun v hv => by rw [pk_un (by omega)]; exact hu2 v hv) (pk_us) (by omega) _ _ hP hS ls (lv_sub hl [1, 2, 3, 4, 5, 0] rfl)
              · have c_55 := (cz_eq_n (by omega)).mp c_55
                refine lv_bipush (v := (nI (32))) hx hb dX6_owns_58 (by decide) ?_
                refine ln_toi (y := (ahd letter (8 * i) k)) (ahd_z2 c_55) ?_
                refine lv_goto (tgt := 78) hx hb dX6_owns_60 (by decide) ?_
                refine ro_call (va_runV (As := [.int (nI (counting)), .int (nI (custom)), .int (letter ((8 * i) + k)), .int (ahd letter (8 * i) k)]) (rest := [.int (smv value counting custom letter (8 * i) k), .int (nI (i)), .ref (g.2.2 10)]) ⟨hx, hb, hml, hown, hts⟩ (c_X6_worthOf l (g := g) (trace := trace) (value := value) (draft := draft) (typed := typed) (vocables := nI (nv)) (letter := letter) (long1 := long1) (feet := feet) (sort := sort) (order := order) (left := left) (opn := opn) (own := u2) (other := other) (pick := pick) (parts := parts) (frm := frm) (size := size) (isYear := isYear) (isNext := isNext) (ways := ways) (nextWays := nextWays) (counting) (custom) (letter ((8 * i) + k)) (ahd letter (8 * i) k) hc hk) (cwV 4 hts gX6_owns_X6_worthOf rfl rfl rfl (by decide +kernel) ⟨Nat.le_of_ble_eq_true rfl, Nat.le_of_ble_eq_true rfl⟩) (pre_V pW_bl (va_recv hK hP (ci := 6) (q0 := 0) rfl rfl) (fun U hU hW => pW_of hP hK hN hU hW)) rfl rfl hl.1 rfl (lv_room (Nat.le_of_ble_eq_true rfl)) dX6_owns_78 ⟨Nat.zero_le _, Nat.zero_le _⟩) ?_
                refine lv_iadd hx hb dX6_owns_81 ?_
                refine ln_toi (y := (smv value counting custom letter (8 * i) (k + 1))) (rfl) ?_
                refine an_iast (f := u2) (ws' := (wM g trace value draft typed (nI (nv)) letter long1 feet sort order left opn (upd (u2) (i) (smv value counting custom letter (8 * i) (k + 1))) other pick parts frm size isYear isNext ways nextWays)) hx hb hK hP (wM_D hd) hS 10 0 rfl rfl (by decide) (by omega) rfl dX6_owns_82 (fun H locs hP hS => ?_)
                refine lv_iinc (v := (nI (k + 1))) (lv' := [(5, .int (nI (k + 1))), (0, .ref (g.2.2 0)), (1, .int (nI (counting))), (2, .int (nI (custom))), (3, .ref (g.2.2 10)), (4, .int (nI (i)))]) hx hb dX6_owns_83 hl (k := 5) rfl (nI_add _ 1) (by decide) rfl (fun ls hl => ?_)
                refine lv_goto (tgt := 20) hx hb dX6_owns_86 (by decide) ?_
                exact ih_20 (k + 1) (upd u2 i (smv value counting custom letter (8 * i) (k + 1))) (by omega) (fun v hv => by rw [pk_un (by omega)]; exact hu2 v hv) (pk_us) (by omega) _ _ hP hS ls (lv_sub hl [1, 2, 3, 4, 5, 0] rfl)
        exact lp_20 (tn (long1 i) - (0) + 1) 0 (upd u i (nI 0)) (Nat.zero_le _) (fun v hv => by rw [pk_un (by omega)]; exact hu v hv) (pk_us) (Nat.lt_succ_self _) _ _ hP hS ls (lv_sub hl [1, 2, 3, 4, 5, 0] rfl)
  exact lp_3 (nv - (0) + 1) 0 own (Nat.zero_le _) (fun k hk => absurd hk (Nat.not_lt_zero k)) (Nat.lt_succ_self _) _ _ hP hS ls (lv_sub hl [1, 2, 3, 4, 0] rfl)
set_option maxHeartbeats 200000 in
set_option maxRecDepth 100000 in
theorem c_X6_owns_other (l : Launch) {g : GW} {trace : Int64} {value : Nat → Int32} {draft : Nat → Int32} {typed : Int32} {nv : Nat} {letter : Nat → Int32} {long1 : Nat → Int32} {feet : Nat → Int32} {sort : Nat → Int32} {order : Nat → Int32} {left : Nat → Int64} {opn : Nat → Int64} {own : Nat → Int32} {other : Nat → Int32} {pick : Nat → Int32} {parts : Int32} {frm : Nat → Int32} {size : Nat → Int32} {isYear : Nat → Int32} {isNext : Nat → Int32} {ways : Nat → Int64} {nextWays : Nat → Int64} {sz : Nat} (counting : Nat) (custom : Nat) (hc : counting < 3) (hk : custom < 4) (hnv : nv ≤ 10) (hle : okV long1 nv 1 8) (hd : dW 19 g.2.2) : Met l yX6_owns wsX6_owns ({ frames := 4, cells := 0, slots := 0, locals := 89 }) (va_Pc ([.ref (g.2.2 0), .int (nI (counting)), .int (nI (custom)), .ref (g.2.2 11)]) (qW g (wM g trace value draft typed (nI (nv)) letter long1 feet sort order left opn own other pick parts frm size isYear isNext ways nextWays) sz)) (va_Qv (fun (z : (Nat → Int32)) => ∀ v, v < nv → z v = vsm value letter long1 counting custom v) (fun (z : (Nat → Int32)) (t : State) => va_P g.1 vwCl (wM g trace value draft typed (nI (nv)) letter long1 feet sort order left opn own z pick parts frm size isYear isNext ways nextWays) t.heap) (aW 19 g.2.2 sz)) 0 0 (aW 19 g.2.2 sz) := by
  refine Met.ofW (cc := cX6_owns) (maxL := 6) (ret := none) (by decide) rfl ?_
  intro p e s m args below meth c s₁ B hml hv
  obtain ⟨rfl, hsz9, hP, hK, hN⟩ := hv
  subst hsz9
  have hx := B.exec
  have hb := B.bytes
  have hr := B.returns
  have hts := atoms_spec (ws := wsX6_owns) B.pre
  have hown : s.vm.findClass RX6 = some m.cls := findClass_of_methodNamed B.named
  have hlocks := B.notSynchronized
  have hS : va_S (aW 19 g.2.2 s.heap.size) s.heap s.heap [] := va_S.rf
  have hl := lv_entry ([.ref (g.2.2 0), .int (nI (counting)), .int (nI (custom)), .ref (g.2.2 11)]) (n := 6) (Nat.le_of_ble_eq_true rfl)
  rw [lg_entry_eq]
  generalize (lg_sl ([.ref (g.2.2 0), .int (nI (counting)), .int (nI (custom)), .ref (g.2.2 11)]) ++ List.replicate (6 - (lg_sl ([.ref (g.2.2 0), .int (nI (counting)), .int (nI (custom)), .ref (g.2.2 11)])).length) Slot.unset).toArray = ls at hl ⊢
  have hl : lv_has ls 6 [(0, .ref (g.2.2 0)), (1, .int (nI (counting))), (2, .int (nI (custom))), (3, .ref (g.2.2 11))] := hl
  refine lv_iconst (v := (nI (0))) hx hb dX6_owns_0 (by decide) ?_
  refine lv_istore (lv' := [(4, .int (nI (0))), (0, .ref (g.2.2 0)), (1, .int (nI (counting))), (2, .int (nI (custom))), (3, .ref (g.2.2 11))]) hx hb dX6_owns_1 hl (by decide) rfl (fun ls hl => ?_)
  have lp_3 : ∀ (n : Nat) (i : Nat) (u : Nat → Int32), (i ≤ nv) → (∀ v, v < i → u v = vsm value letter long1 counting custom v) → nv - i < n → ∀ (H : Heap) (locs : List Loc), va_P g.1 vwCl (wM g trace value draft typed (nI (nv)) letter long1 feet sort order left opn own u pick parts frm size isYear isNext ways nextWays) H → va_S (aW 19 g.2.2 s.heap.size) s.heap H locs → ∀ (ls : Array Slot), lv_has ls 6 [(0, .ref (g.2.2 0)), (1, .int (nI (counting))), (2, .int (nI (custom))), (3, .ref (g.2.2 11)), (4, .int (nI (i)))] → W p l e (headSpec wsX6_owns ({ frames := 4, cells := 0, slots := 0, locals := 89 })).room s m (([.ref (g.2.2 0), .int (nI (counting)), .int (nI (custom)), .ref (g.2.2 11)] : List Value).toArray) below meth c H locs 0 0 (MQ below (va_Qv (fun (z : (Nat → Int32)) => ∀ v, v < nv → z v = vsm value letter long1 counting custom v) (fun (z : (Nat → Int32)) (t : State) => va_P g.1 vwCl (wM g trace value draft typed (nI (nv)) letter long1 feet sort order left opn own z pick parts frm size isYear isNext ways nextWays) t.heap) (aW 19 g.2.2 s.heap.size)) (([.ref (g.2.2 0), .int (nI (counting)), .int (nI (custom)), .ref (g.2.2 11)] : List Value).toArray) s 0 0 (aW 19 g.2.2 s.heap.size)) (F0 m 3 ls []) := by
    intro n
    induction n with
    | zero => intro i u hi hu hm; exact absurd hm (Nat.not_lt_zero _)
    | succ n ih_3 =>
      intro i u hi hu hm_3 H locs hP hS ls hl
      refine lv_iload hx hb dX6_owns_3 (lv_at hl 4 rfl) ?_
      refine lv_aload_n hx hb dX6_owns_5 rfl (lv_at hl 0 rfl) ?_
      refine an_get (ci := 6) (v := .int (nI (nv))) (C := RX6) (T := TX6) (N := 23) hx hb hts iw_X6_owns_X6 hown hK hP 0 rfl rfl 5 (by decide) (hts _ fl_X6_owns_124) rfl dX6_owns_6 ?_
      refine lv_icmp_ge (tgt := 95) hx hb dX6_owns_9 (by decide) (fun c_9 => ?_) (fun c_9 => ?_)
      · have c_9 := (cv_le_nn (by omega) (by omega)).mp c_9
        exact wr_vret (u) hx hb hr hlocks (fun v hv => hu v (by omega)) (fun t ht => show va_P g.1 vwCl (wM g trace value draft typed (nI (nv)) letter long1 feet sort order left opn own u pick parts frm size isYear isNext ways nextWays) t.heap by rw [ht]; exact hP) hS dX6_owns_95
      · have c_9 := (not_congr (cv_le_nn (by omega) (by omega))).mp c_9
        refine lv_aload_n hx hb dX6_owns_12 rfl (lv_at hl 3 rfl) ?_
        refine lv_iload hx hb dX6_owns_13 (lv_at hl 4 rfl) ?_
        refine lv_iconst (v := (nI (0))) hx hb dX6_owns_15 (by decide) ?_
        refine an_iast (f := u) (ws' := (wM g trace value draft typed (nI (nv)) letter long1 feet sort order left opn own (upd (u) (i) (nI (0))) pick parts frm size isYear isNext ways nextWays)) hx hb hK hP (wM_D hd) hS 11 0 rfl rfl (by decide) (by omega) rfl dX6_owns_16 (fun H locs hP hS => ?_)
        refine lv_iconst (v := (nI (0))) hx hb dX6_owns_17 (by decide) ?_
        refine lv_istore (lv' := [(5, .int (nI (0))), (0, .ref (g.2.2 0)), (1, .int (nI (counting))), (2, .int (nI (custom))), (3, .ref (g.2.2 11)), (4, .int (nI (i)))]) hx hb dX6_owns_18 hl (by decide) rfl (fun ls hl => ?_)
        have lp_20 : ∀ (n : Nat) (k : Nat) (u2 : Nat → Int32), (k ≤ tn (long1 i)) → (∀ v, v < i → u2 v = vsm value letter long1 counting custom v) → (u2 i = smv value counting custom letter (8 * i) k) → tn (long1 i) - k < n → ∀ (H : Heap) (locs : List Loc), va_P g.1 vwCl (wM g trace value draft typed (nI (nv)) letter long1 feet sort order left opn own u2 pick parts frm size isYear isNext ways nextWays) H → va_S (aW 19 g.2.2 s.heap.size) s.heap H locs → ∀ (ls : Array Slot), lv_has ls 6 [(0, .ref (g.2.2 0)), (1, .int (nI (counting))), (2, .int (nI (custom))), (3, .ref (g.2.2 11)), (4, .int (nI (i))), (5, .int (nI (k)))] → W p l e (headSpec wsX6_owns ({ frames := 4, cells := 0, slots := 0, locals := 89 })).room s m (([.ref (g.2.2 0), .int (nI (counting)), .int (nI (custom)), .ref (g.2.2 11)] : List Value).toArray) below meth c H locs 0 0 (MQ below (va_Qv (fun (z : (Nat → Int32)) => ∀ v, v < nv → z v = vsm value letter long1 counting custom v) (fun (z : (Nat → Int32)) (t : State) => va_P g.1 vwCl (wM g trace value draft typed (nI (nv)) letter long1 feet sort order left opn own z pick parts frm size isYear isNext ways nextWays) t.heap) (aW 19 g.2.2 s.heap.size)) (([.ref (g.2.2 0), .int (nI (counting)), .int (nI (custom)), .ref (g.2.2 11)] : List Value).toArray) s 0 0 (aW 19 g.2.2 s.heap.size)) (F0 m 20 ls []) := by
          intro n
          induction n with
          | zero => intro k u2 hk2 hu2 hu3 hm; exact absurd hm (Nat.not_lt_zero _)
          | succ n ih_20 =>
            intro k u2 hk2 hu2 hu3 hm_20 H locs hP hS ls hl
            refine lv_iload hx hb dX6_owns_20 (lv_at hl 5 rfl) ?_
            refine lv_aload_n hx hb dX6_owns_22 rfl (lv_at hl 0 rfl) ?_
            refine an_get (ci := 6) (v := .ref (g.2.2 4)) (C := RX6) (T := TX6) (N := 23) hx hb hts iw_X6_owns_X6 hown hK hP 0 rfl rfl 7 (by decide) (hts _ fl_X6_owns_19) rfl dX6_owns_23 ?_
            refine lv_iload hx hb dX6_owns_26 (lv_at hl 4 rfl) ?_
            have hl8 := hle i (by omega)
            refine an_iald (f := long1) hx hb hK hP 4 0 rfl rfl (by decide) (by omega) dX6_owns_28 ?_
            refine ln_toi (y := (nI (tn (long1 i)))) (hl8.1) ?_
            refine lv_icmp_ge (tgt := 89) hx hb dX6_owns_29 (by decide) (fun c_29 => ?_) (fun c_29 => ?_)
            · have c_29 := (cv_le_nn (by omega) (by omega)).mp c_29
              refine lv_iinc (v := (nI (i + 1))) (lv' := [(4, .int (nI (i + 1))), (0, .ref (g.2.2 0)), (1, .int (nI (counting))), (2, .int (nI (custom))), (3, .ref (g.2.2 11)), (5, .int (nI (k)))]) hx hb dX6_owns_89 hl (k := 4) rfl (nI_add _ 1) (by decide) rfl (fun ls hl => ?_)
              refine lv_goto (tgt := 3) hx hb dX6_owns_92 (by decide) ?_
              exact ih_3 (i + 1) u2 (by omega) (lt_s hu2 (by rw [hu3]; exact vsm_e (by omega))) (by omega) _ _ hP hS ls (lv_sub hl [1, 2, 3, 4, 0] rfl)
            · have c_29 := (not_congr (cv_le_nn (by omega) (by omega))).mp c_29
              refine lv_aload_n hx hb dX6_owns_32 rfl (lv_at hl 3 rfl) ?_
              refine lv_iload hx hb dX6_owns_33 (lv_at hl 4 rfl) ?_
              refine lv_dup2_11 hx hb dX6_owns_35 rfl rfl ?_
              refine an_iald (f := u2) hx hb hK hP 11 0 rfl rfl (by decide) (by omega) dX6_owns_36 ?_
              refine ln_toi (y := (smv value counting custom letter (8 * i) k)) (hu3) ?_
              refine lv_aload_n hx hb dX6_owns_37 rfl (lv_at hl 0 rfl) ?_
              refine lv_iload_n hx hb dX6_owns_38 rfl (lv_at hl 1 rfl) ?_
              refine lv_iload_n hx hb dX6_owns_39 rfl (lv_at hl 2 rfl) ?_
              refine lv_aload_n hx hb dX6_owns_40 rfl (lv_at hl 0 rfl) ?_
              refine an_get (ci := 6) (v := .ref (g.2.2 3)) (C := RX6) (T := TX6) (N := 23) hx hb hts iw_X6_owns_X6 hown hK hP 0 rfl rfl 6 (by decide) (hts _ fl_X6_owns_16) rfl dX6_owns_41 ?_
              refine lv_bipush (v := (nI (8))) hx hb dX6_owns_44 (by decide) ?_
              refine lv_iload hx hb dX6_owns_46 (lv_at hl 4 rfl) ?_
              refine ln_imul hx hb dX6_owns_48 ?_
              refine lv_iload hx hb dX6_owns_49 (lv_at hl 5 rfl) ?_
              refine ln_iadd hx hb dX6_owns_51 ?_
              refine an_iald (f := letter) hx hb hK hP 3 0 rfl rfl (by decide) (by omega) dX6_owns_52 ?_
              refine lv_iload hx hb dX6_owns_53 (lv_at hl 5 rfl) ?_
              refine lv_if_ne (tgt := 63) hx hb dX6_owns_55 (by decide) (fun c_55 => ?_) (fun c_55 => ?_)
              · have c_55 := (not_congr (cz_eq_n (by omega))).mp c_55
                refine lv_aload_n hx hb dX6_owns_63 rfl (lv_at hl 0 rfl) ?_
                refine an_get (ci := 6) (v := .ref (g.2.2 3)) (C := RX6) (T := TX6) (N := 23) hx hb hts iw_X6_owns_X6 hown hK hP 0 rfl rfl 6 (by decide) (hts _ fl_X6_owns_16) rfl dX6_owns_64 ?_
                refine lv_bipush (v := (nI (8))) hx hb dX6_owns_67 (by decide) ?_
                refine lv_iload hx hb dX6_owns_69 (lv_at hl 4 rfl) ?_
                refine ln_imul hx hb dX6_owns_71 ?_
                refine lv_iload hx hb dX6_owns_72 (lv_at hl 5 rfl) ?_
                refine ln_iadd hx hb dX6_owns_74 ?_
                refine lv_iconst (v := (nI (1))) hx hb dX6_owns_75 (by decide) ?_
                refine ln_isub hx hb (by omega) dX6_owns_76 ?_
                refine an_iald (f := letter) hx hb hK hP 3 0 rfl rfl (by decide) (by omega) dX6_owns_77 ?_
                refine ln_toi (y := (ahd letter (8 * i) k)) (ahd_p2 c_55) ?_
                refine ro_call (va_runV (As := [.int (nI (counting)), .int (nI (custom)), .int (letter ((8 * i) + k)), .int (ahd letter (8 * i) k)]) (rest := [.int (smv value counting custom letter (8 * i) k), .int (nI (i)), .ref (g.2.2 11)]) ⟨hx, hb, hml, hown, hts⟩ (c_X6_worthOf l (g := g) (trace := trace) (value := value) (draft := draft) (typed := typed) (vocables := nI (nv)) (letter := letter) (long1 := long1) (feet := feet) (sort := sort) (order := order) (left := left) (opn := opn) (own := own) (other := u2) (pick := pick) (parts := parts) (frm := frm) (size := size) (isYear := isYear) (isNext := isNext) (ways := ways) (nextWays := nextWays) (counting) (custom) (letter ((8 * i) + k)) (ahd letter (8 * i) k) hc hk) (cwV 4 hts gX6_owns_X6_worthOf rfl rfl rfl (by decide +kernel) ⟨Nat.le_of_ble_eq_true rfl, Nat.le_of_ble_eq_true rfl⟩) (pre_V pW_bl (va_recv hK hP (ci := 6) (q0 := 0) rfl rfl) (fun U hU hW => pW_of hP hK hN hU hW)) rfl rfl hl.1 rfl (lv_room (Nat.le_of_ble_eq_true rfl)) dX6_owns_78 ⟨Nat.zero_le _, Nat.zero_le _⟩) ?_
                refine lv_iadd hx hb dX6_owns_81 ?_
                refine ln_toi (y := (smv value counting custom letter (8 * i) (k + 1))) (rfl) ?_
                refine an_iast (f := u2) (ws' := (wM g trace value draft typed (nI (nv)) letter long1 feet sort order left opn own (upd (u2) (i) (smv value counting custom letter (8 * i) (k + 1))) pick parts frm size isYear isNext ways nextWays)) hx hb hK hP (wM_D hd) hS 11 0 rfl rfl (by decide) (by omega) rfl dX6_owns_82 (fun H locs hP hS => ?_)
                refine lv_iinc (v := (nI (k + 1))) (lv' := [(5, .int (nI (k + 1))), (0, .ref (g.2.2 0)), (1, .int (nI (counting))), (2, .int (nI (custom))), (3, .ref (g.2.2 11)), (4, .int (nI (i)))]) hx hb dX6_owns_83 hl (k := 5) rfl (nI_add _ 1) (by decide) rfl (fun ls hl => ?_)
                refine lv_goto (tgt := 20) hx hb dX6_owns_86 (by decide) ?_
                exact ih_20 (k + 1) (upd u2 i (smv value counting custom letter (8 * i) (k + 1))) (by omega) (fun v hv => by rw [pk_un (by omega)]; exact hu2 v hv) (pk_us) (by omega) _ _ hP hS ls (lv_sub hl [1, 2, 3, 4, 5, 0] rfl)
              · have c_55 := (cz_eq_n (by omega)).mp c_55
                refine lv_bipush (v := (nI (32))) hx hb dX6_owns_58 (by decide) ?_
                refine ln_toi (y := (ahd letter (8 * i) k)) (ahd_z2 c_55) ?_
                refine lv_goto (tgt := 78) hx hb dX6_owns_60 (by decide) ?_
                refine ro_call (va_runV (As := [.int (nI (counting)), .int (nI (custom)), .int (letter ((8 * i) + k)), .int (ahd letter (8 * i) k)]) (rest := [.int (smv value counting custom letter (8 * i) k), .int (nI (i)), .ref (g.2.2 11)]) ⟨hx, hb, hml, hown, hts⟩ (c_X6_worthOf l (g := g) (trace := trace) (value := value) (draft := draft) (typed := typed) (vocables := nI (nv)) (letter := letter) (long1 := long1) (feet := feet) (sort := sort) (order := order) (left := left) (opn := opn) (own := own) (other := u2) (pick := pick) (parts := parts) (frm := frm) (size := size) (isYear := isYear) (isNext := isNext) (ways := ways) (nextWays := nextWays) (counting) (custom) (letter ((8 * i) + k)) (ahd letter (8 * i) k) hc hk) (cwV 4 hts gX6_owns_X6_worthOf rfl rfl rfl (by decide +kernel) ⟨Nat.le_of_ble_eq_true rfl, Nat.le_of_ble_eq_true rfl⟩) (pre_V pW_bl (va_recv hK hP (ci := 6) (q0 := 0) rfl rfl) (fun U hU hW => pW_of hP hK hN hU hW)) rfl rfl hl.1 rfl (lv_room (Nat.le_of_ble_eq_true rfl)) dX6_owns_78 ⟨Nat.zero_le _, Nat.zero_le _⟩) ?_
                refine lv_iadd hx hb dX6_owns_81 ?_
                refine ln_toi (y := (smv value counting custom letter (8 * i) (k + 1))) (rfl) ?_
                refine an_iast (f := u2) (ws' := (wM g trace value draft typed (nI (nv)) letter long1 feet sort order left opn own (upd (u2) (i) (smv value counting custom letter (8 * i) (k + 1))) pick parts frm size isYear isNext ways nextWays)) hx hb hK hP (wM_D hd) hS 11 0 rfl rfl (by decide) (by omega) rfl dX6_owns_82 (fun H locs hP hS => ?_)
                refine lv_iinc (v := (nI (k + 1))) (lv' := [(5, .int (nI (k + 1))), (0, .ref (g.2.2 0)), (1, .int (nI (counting))), (2, .int (nI (custom))), (3, .ref (g.2.2 11)), (4, .int (nI (i)))]) hx hb dX6_owns_83 hl (k := 5) rfl (nI_add _ 1) (by decide) rfl (fun ls hl => ?_)
                refine lv_goto (tgt := 20) hx hb dX6_owns_86 (by decide) ?_
                exact ih_20 (k + 1) (upd u2 i (smv value counting custom letter (8 * i) (k + 1))) (by omega) (fun v hv => by rw [pk_un (by omega)]; exact hu2 v hv) (pk_us) (by omega) _ _ hP hS ls (lv_sub hl [1, 2, 3, 4, 5, 0] rfl)
        exact lp_20 (tn (long1 i) - (0) + 1) 0 (upd u i (nI 0)) (Nat.zero_le _) (fun v hv => by rw [pk_un (by omega)]; exact hu v hv) (pk_us) (Nat.lt_succ_self _) _ _ hP hS ls (lv_sub hl [1, 2, 3, 4, 5, 0] rfl)
  exact lp_3 (nv - (0) + 1) 0 other (Nat.zero_le _) (fun k hk => absurd hk (Nat.not_lt_zero k)) (Nat.lt_succ_self _) _ _ hP hS ls (lv_sub hl [1, 2, 3, 4, 0] rfl)
theorem iw_X6_many_X6 : ∀ w ∈ u_ws RX6 TX6 23, w ∈ wsX6_many := by decide +kernel
theorem fl_X6_many_22 : Cond.fieldLink RX6 22 (TX6 8).1 (TX6 8).2.1 (TX6 8).2.2.1 ∈ wsX6_many := by decide +kernel
theorem fl_X6_many_25 : Cond.fieldLink RX6 25 (TX6 9).1 (TX6 9).2.1 (TX6 9).2.2.1 ∈ wsX6_many := by decide +kernel
theorem fl_X6_many_36 : Cond.fieldLink RX6 36 (TX6 12).1 (TX6 12).2.1 (TX6 12).2.2.1 ∈ wsX6_many := by decide +kernel
theorem fl_X6_many_67 : Cond.fieldLink RX6 67 (TX6 0).1 (TX6 0).2.1 (TX6 0).2.2.1 ∈ wsX6_many := by decide +kernel
theorem fl_X6_many_124 : Cond.fieldLink RX6 124 (TX6 5).1 (TX6 5).2.1 (TX6 5).2.2.1 ∈ wsX6_many := by decide +kernel
set_option maxHeartbeats 200000 in
set_option maxRecDepth 100000 in
theorem c_X6_many (l : Launch) {g : GW} {trace : Int64} {value : Nat → Int32} {draft : Nat → Int32} {typed : Int32} {nv : Nat} {letter : Nat → Int32} {long1 : Nat → Int32} {feet : Nat → Int32} {sort : Nat → Int32} {order : Nat → Int32} {left : Nat → Int64} {opn : Nat → Int64} {own : Nat → Int32} {other : Nat → Int32} {pick : Nat → Int32} {parts : Int32} {frm : Nat → Int32} {size : Nat → Int32} {isYear : Nat → Int32} {isNext : Nat → Int32} {ways : Nat → Int64} {nextWays : Nat → Int64} {sz : Nat} (ft : Int32) (hnv : nv ≤ 10) (hfe : okV feet nv 1 3) (hso : okV sort nv 0 2) (hd : dW 19 g.2.2) : Met l yX6_many wsX6_many ({ frames := 1, cells := 0, slots := 0, locals := 25 }) (va_Pc ([.ref (g.2.2 0), .int (ft)]) (qW g (wM g trace value draft typed (nI (nv)) letter long1 feet sort order left opn own other pick parts frm size isYear isNext ways nextWays) sz)) (va_Ql (fun (r : Int64) (z : (Nat → Int64)) => r = if 1 ≤ ft.toInt ∧ ft.toInt ≤ 8 then lN (mwy feet sort order nv (tn ft) 3) else (-1 : Int64)) (fun (z : (Nat → Int64)) (t : State) => va_P g.1 vwCl (wM g trace value draft typed (nI (nv)) letter long1 feet sort order left z own other pick parts frm size isYear isNext ways nextWays) t.heap) (aW 19 g.2.2 sz)) 0 0 (aW 19 g.2.2 sz) := by
  refine Met.ofW (cc := cX6_many) (maxL := 7) (ret := (some .long)) (by decide) rfl ?_
  intro p e s m args below meth c s₁ B hml hv
  obtain ⟨rfl, hsz9, hP, hK, hN⟩ := hv
  subst hsz9
  have hx := B.exec
  have hb := B.bytes
  have hr := B.returns
  have hts := atoms_spec (ws := wsX6_many) B.pre
  have hown : s.vm.findClass RX6 = some m.cls := findClass_of_methodNamed B.named
  have hlocks := B.notSynchronized
  have hS : va_S (aW 19 g.2.2 s.heap.size) s.heap s.heap [] := va_S.rf
  have hl := lv_entry ([.ref (g.2.2 0), .int (ft)]) (n := 7) (Nat.le_of_ble_eq_true rfl)
  rw [lg_entry_eq]
  generalize (lg_sl ([.ref (g.2.2 0), .int (ft)]) ++ List.replicate (7 - (lg_sl ([.ref (g.2.2 0), .int (ft)])).length) Slot.unset).toArray = ls at hl ⊢
  have hl : lv_has ls 7 [(0, .ref (g.2.2 0)), (1, .int (ft))] := hl
  refine lv_aload_n hx hb dX6_many_0 rfl (lv_at hl 0 rfl) ?_
  refine lv_iconst (v := (nI (0))) hx hb dX6_many_1 (by decide) ?_
  refine an_put (ci := 6) (v := .int (nI (0))) (ty := .int) (C := RX6) (T := TX6) (N := 23) (ws' := (wM g trace value draft typed (nI (nv)) letter long1 feet sort order left opn own other pick parts frm size isYear isNext ways nextWays)) hx hb hts iw_X6_many_X6 tyX6 tyX6_ok nmX6 hown hK hP (wM_D hd) hS 0 rfl rfl 0 (by decide) (hts _ fl_X6_many_67) rfl (by decide +kernel) (rfl) (rfl) (Nat.le_of_ble_eq_true rfl) rfl dX6_many_2 (fun H locs hP hS => ?_)
  refine lv_iload_n hx hb dX6_many_5 rfl (lv_at hl 1 rfl) ?_
  refine lv_i2l hx hb dX6_many_6 rfl ?_
  refine lv_lconst (v := (lN (1))) hx hb dX6_many_7 (by decide) ?_
  refine lv_ldc2 hx hb hown (hts (.constantLong RX6 115 (8)) (by decide +kernel)) dX6_many_8 ?_
  refine ln_tol (y := lN 8) (by decide) ?_
  refine ro_call (va_runS (As := [.long ((ft).toInt64), .long (lN (1)), .long (lN (8))]) (rest := []) ⟨hx, hb, hml, hown, hts⟩ (c_X6_in l ((ft)) (1) (8) (by decide) (by decide)) (va_cwS 3 hts gX6_many_X6_in rfl rfl rfl (by decide +kernel) ⟨Nat.le_of_ble_eq_true rfl, Nat.le_of_ble_eq_true rfl⟩) pre_0 rfl rfl hl.1 rfl (lv_room (Nat.le_of_ble_eq_true rfl)) dX6_many_11 ⟨Nat.zero_le _, Nat.zero_le _⟩) ?_
  refine lv_if_ne (tgt := 21) hx hb dX6_many_14 (by decide) (fun c_14 => ?_) (fun c_14 => ?_)
  · have c_14 := if_p c_14
    obtain ⟨f0, hf0, rfl⟩ := iN_of (x := ft) (b := 9) (by omega) (by omega)
    have hft9 : (nI f0).toInt = (f0 : Int) := nI_toInt (by omega)
    refine lv_iconst (v := (nI (0))) hx hb dX6_many_21 (by decide) ?_
    refine lv_istore_n (lv' := [(2, .int (nI (0))), (0, .ref (g.2.2 0)), (1, .int (nI (f0)))]) hx hb dX6_many_22 rfl hl (by decide) rfl (fun ls hl => ?_)
    have lp_23 : ∀ (n : Nat) (f : Nat) (b : Nat → Int64), (f ≤ f0 + 1) → (∀ f2 s, f2 < f → s < 4 → b (4 * f2 + s) = lN (mwy feet sort order nv f2 s)) → f0 + 1 - f < n → ∀ (H : Heap) (locs : List Loc), va_P g.1 vwCl (wM g trace value draft typed (nI (nv)) letter long1 feet sort order left b own other pick parts frm size isYear isNext ways nextWays) H → va_S (aW 19 g.2.2 s.heap.size) s.heap H locs → ∀ (ls : Array Slot), lv_has ls 7 [(0, .ref (g.2.2 0)), (1, .int (nI (f0))), (2, .int (nI (f)))] → W p l e (headSpec wsX6_many ({ frames := 1, cells := 0, slots := 0, locals := 25 })).room s m (([.ref (g.2.2 0), .int ((nI (f0)))] : List Value).toArray) below meth c H locs 0 0 (MQ below (va_Ql (fun (r : Int64) (z : (Nat → Int64)) => r = if 1 ≤ (nI (f0)).toInt ∧ (nI (f0)).toInt ≤ 8 then lN (mwy feet sort order nv (tn (nI (f0))) 3) else (-1 : Int64)) (fun (z : (Nat → Int64)) (t : State) => va_P g.1 vwCl (wM g trace value draft typed (nI (nv)) letter long1 feet sort order left z own other pick parts frm size isYear isNext ways nextWays) t.heap) (aW 19 g.2.2 s.heap.size)) (([.ref (g.2.2 0), .int ((nI (f0)))] : List Value).toArray) s 0 0 (aW 19 g.2.2 s.heap.size)) (F0 m 23 ls []) := by
      intro n
      induction n with
      | zero => intro f b hf2 hb2 hm; exact absurd hm (Nat.not_lt_zero _)
      | succ n ih_23 =>
        intro f b hf2 hb2 hm_23 H locs hP hS ls hl
        refine lv_iload_n hx hb dX6_many_23 rfl (lv_at hl 2 rfl) ?_
        refine lv_iload_n hx hb dX6_many_24 rfl (lv_at hl 1 rfl) ?_
        refine lv_icmp_gt (tgt := 142) hx hb dX6_many_25 (by decide) (fun c_25 => ?_) (fun c_25 => ?_)
        · have c_25 := (cv_lt_nn (by omega) (by omega)).mp c_25
          refine lv_aload_n hx hb dX6_many_142 rfl (lv_at hl 0 rfl) ?_
          refine an_get (ci := 6) (v := .ref (g.2.2 9)) (C := RX6) (T := TX6) (N := 23) hx hb hts iw_X6_many_X6 hown hK hP 0 rfl rfl 12 (by decide) (hts _ fl_X6_many_36) rfl dX6_many_143 ?_
          refine lv_iconst (v := (nI (4))) hx hb dX6_many_146 (by decide) ?_
          refine lv_iload_n hx hb dX6_many_147 rfl (lv_at hl 1 rfl) ?_
          refine ln_imul hx hb dX6_many_148 ?_
          refine lv_iconst (v := (nI (3))) hx hb dX6_many_149 (by decide) ?_
          refine ln_iadd hx hb dX6_many_150 ?_
          refine an_lald (f := b) hx hb hK hP 9 1 rfl rfl (by decide) (by omega) dX6_many_151 ?_
          refine ln_tol (y := (lN (mwy feet sort order nv f0 3))) (hb2 f0 3 (by omega) (by omega)) ?_
          exact wr_lret (b) hx hb hr hlocks (by rw [if_pos (by omega), tn_nI (by omega)]) (fun t ht => show va_P g.1 vwCl (wM g trace value draft typed (nI (nv)) letter long1 feet sort order left b own other pick parts frm size isYear isNext ways nextWays) t.heap by rw [ht]; exact hP) hS dX6_many_152
        · have c_25 := (not_congr (cv_lt_nn (by omega) (by omega))).mp c_25
          refine lv_iconst (v := (nI (0))) hx hb dX6_many_28 (by decide) ?_
          refine lv_istore_n (lv' := [(3, .int (nI (0))), (0, .ref (g.2.2 0)), (1, .int (nI (f0))), (2, .int (nI (f)))]) hx hb dX6_many_29 rfl hl (by decide) rfl (fun ls hl => ?_)
          have lp_30 : ∀ (n : Nat) (s2 : Nat) (b2 : Nat → Int64), (s2 ≤ 4) → (∀ f2 s, f2 < f → s < 4 → b2 (4 * f2 + s) = lN (mwy feet sort order nv f2 s)) → (∀ s, s < s2 → b2 (4 * f + s) = lN (mwy feet sort order nv f s)) → 4 - s2 < n → ∀ (H : Heap) (locs : List Loc), va_P g.1 vwCl (wM g trace value draft typed (nI (nv)) letter long1 feet sort order left b2 own other pick parts frm size isYear isNext ways nextWays) H → va_S (aW 19 g.2.2 s.heap.size) s.heap H locs → ∀ (ls : Array Slot), lv_has ls 7 [(0, .ref (g.2.2 0)), (1, .int (nI (f0))), (2, .int (nI (f))), (3, .int (nI (s2)))] → W p l e (headSpec wsX6_many ({ frames := 1, cells := 0, slots := 0, locals := 25 })).room s m (([.ref (g.2.2 0), .int ((nI (f0)))] : List Value).toArray) below meth c H locs 0 0 (MQ below (va_Ql (fun (r : Int64) (z : (Nat → Int64)) => r = if 1 ≤ (nI (f0)).toInt ∧ (nI (f0)).toInt ≤ 8 then lN (mwy feet sort order nv (tn (nI (f0))) 3) else (-1 : Int64)) (fun (z : (Nat → Int64)) (t : State) => va_P g.1 vwCl (wM g trace value draft typed (nI (nv)) letter long1 feet sort order left z own other pick parts frm size isYear isNext ways nextWays) t.heap) (aW 19 g.2.2 s.heap.size)) (([.ref (g.2.2 0), .int ((nI (f0)))] : List Value).toArray) s 0 0 (aW 19 g.2.2 s.heap.size)) (F0 m 30 ls []) := by
            intro n
            induction n with
            | zero => intro s2 b2 hs hb3 hb4 hm; exact absurd hm (Nat.not_lt_zero _)
            | succ n ih_30 =>
              intro s2 b2 hs hb3 hb4 hm_30 H locs hP hS ls hl
              refine lv_iload_n hx hb dX6_many_30 rfl (lv_at hl 3 rfl) ?_
              refine lv_iconst (v := (nI (4))) hx hb dX6_many_31 (by decide) ?_
              refine lv_icmp_ge (tgt := 136) hx hb dX6_many_32 (by decide) (fun c_32 => ?_) (fun c_32 => ?_)
              · have c_32 := (cv_le_nn (by omega) (by omega)).mp c_32
                refine lv_iinc (v := (nI (f + 1))) (lv' := [(2, .int (nI (f + 1))), (0, .ref (g.2.2 0)), (1, .int (nI (f0))), (3, .int (nI (s2)))]) hx hb dX6_many_136 hl (k := 2) rfl (nI_add _ 1) (by decide) rfl (fun ls hl => ?_)
                refine lv_goto (tgt := 23) hx hb dX6_many_139 (by decide) ?_
                exact ih_23 (f + 1) b2 (by omega) (fun f2 s h1 h2 => by by_cases e : f2 = f; (subst e; exact hb4 s (by omega)); exact hb3 f2 s (by omega) h2) (by omega) _ _ hP hS ls (lv_sub hl [1, 2, 0] rfl)
              · have c_32 := (not_congr (cv_le_nn (by omega) (by omega))).mp c_32
                refine lv_iload_n hx hb dX6_many_35 rfl (lv_at hl 2 rfl) ?_
                refine lv_if_ne (tgt := 43) hx hb dX6_many_36 (by decide) (fun c_36 => ?_) (fun c_36 => ?_)
                · have c_36 := (not_congr (cz_eq_n (by omega))).mp c_36
                  refine lv_lconst (v := (lN (0))) hx hb dX6_many_43 (by decide) ?_
                  refine ln_tol (y := (lN ((if f = 0 then 1 else 0) + stq feet sort order (mwy feet sort order nv) f s2 0))) (by rw [if_neg c_36]; rfl) ?_
                  refine lv_lstore (lv' := [(4, .long (lN ((if f = 0 then 1 else 0) + stq feet sort order (mwy feet sort order nv) f s2 0))), (0, .ref (g.2.2 0)), (1, .int (nI (f0))), (2, .int (nI (f))), (3, .int (nI (s2)))]) hx hb dX6_many_44 hl (by decide) rfl (fun ls hl => ?_)
                  refine lv_iconst (v := (nI (0))) hx hb dX6_many_46 (by decide) ?_
                  refine lv_istore (lv' := [(6, .int (nI (0))), (4, .long (lN ((if f = 0 then 1 else 0) + stq feet sort order (mwy feet sort order nv) f s2 0))), (0, .ref (g.2.2 0)), (1, .int (nI (f0))), (2, .int (nI (f))), (3, .int (nI (s2)))]) hx hb dX6_many_47 hl (by decide) rfl (fun ls hl => ?_)
                  have lp_49 : ∀ (n : Nat) (i : Nat), (i ≤ nv) → nv - i < n → ∀ (H : Heap) (locs : List Loc), va_P g.1 vwCl (wM g trace value draft typed (nI (nv)) letter long1 feet sort order left b2 own other pick parts frm size isYear isNext ways nextWays) H → va_S (aW 19 g.2.2 s.heap.size) s.heap H locs → ∀ (ls : Array Slot), lv_has ls 7 [(0, .ref (g.2.2 0)), (1, .int (nI (f0))), (2, .int (nI (f))), (3, .int (nI (s2))), (4, .long (lN ((if f = 0 then 1 else 0) + stq feet sort order (mwy feet sort order nv) f s2 i))), (6, .int (nI (i)))] → W p l e (headSpec wsX6_many ({ frames := 1, cells := 0, slots := 0, locals := 25 })).room s m (([.ref (g.2.2 0), .int ((nI (f0)))] : List Value).toArray) below meth c H locs 0 0 (MQ below (va_Ql (fun (r : Int64) (z : (Nat → Int64)) => r = if 1 ≤ (nI (f0)).toInt ∧ (nI (f0)).toInt ≤ 8 then lN (mwy feet sort order nv (tn (nI (f0))) 3) else (-1 : Int64)) (fun (z : (Nat → Int64)) (t : State) => va_P g.1 vwCl (wM g trace value draft typed (nI (nv)) letter long1 feet sort order left z own other pick parts frm size isYear isNext ways nextWays) t.heap) (aW 19 g.2.2 s.heap.size)) (([.ref (g.2.2 0), .int ((nI (f0)))] : List Value).toArray) s 0 0 (aW 19 g.2.2 s.heap.size)) (F0 m 49 ls []) := by
                    intro n
                    induction n with
                    | zero => intro i hi hm; exact absurd hm (Nat.not_lt_zero _)
                    | succ n ih_49 =>
                      intro i hi hm_49 H locs hP hS ls hl
                      refine lv_iload hx hb dX6_many_49 (lv_at hl 5 rfl) ?_
                      refine lv_aload_n hx hb dX6_many_51 rfl (lv_at hl 0 rfl) ?_
                      refine an_get (ci := 6) (v := .int (nI (nv))) (C := RX6) (T := TX6) (N := 23) hx hb hts iw_X6_many_X6 hown hK hP 0 rfl rfl 5 (by decide) (hts _ fl_X6_many_124) rfl dX6_many_52 ?_
                      refine lv_icmp_ge (tgt := 118) hx hb dX6_many_55 (by decide) (fun c_55 => ?_) (fun c_55 => ?_)
                      · have c_55 := (cv_le_nn (by omega) (by omega)).mp c_55
                        refine lv_aload_n hx hb dX6_many_118 rfl (lv_at hl 0 rfl) ?_
                        refine an_get (ci := 6) (v := .ref (g.2.2 9)) (C := RX6) (T := TX6) (N := 23) hx hb hts iw_X6_many_X6 hown hK hP 0 rfl rfl 12 (by decide) (hts _ fl_X6_many_36) rfl dX6_many_119 ?_
                        refine lv_iconst (v := (nI (4))) hx hb dX6_many_122 (by decide) ?_
                        refine lv_iload_n hx hb dX6_many_123 rfl (lv_at hl 2 rfl) ?_
                        refine ln_imul hx hb dX6_many_124 ?_
                        refine lv_iload_n hx hb dX6_many_125 rfl (lv_at hl 3 rfl) ?_
                        refine ln_iadd hx hb dX6_many_126 ?_
                        refine lv_lload hx hb dX6_many_127 (lv_at hl 4 rfl) ?_
                        refine an_last (f := b2) (ws' := (wM g trace value draft typed (nI (nv)) letter long1 feet sort order left (vp_updL (b2) ((4 * f) + s2) (lN ((if f = 0 then 1 else 0) + stq feet sort order (mwy feet sort order nv) f s2 i))) own other pick parts frm size isYear isNext ways nextWays)) hx hb hK hP (wM_D hd) hS 9 1 rfl rfl (by decide) (by omega) rfl dX6_many_129 (fun H locs hP hS => ?_)
                        refine lv_iinc (v := (nI (s2 + 1))) (lv' := [(3, .int (nI (s2 + 1))), (0, .ref (g.2.2 0)), (1, .int (nI (f0))), (2, .int (nI (f))), (4, .long (lN ((if f = 0 then 1 else 0) + stq feet sort order (mwy feet sort order nv) f s2 i))), (6, .int (nI (i)))]) hx hb dX6_many_130 hl (k := 3) rfl (nI_add _ 1) (by decide) rfl (fun ls hl => ?_)
                        refine lv_goto (tgt := 30) hx hb dX6_many_133 (by decide) ?_
                        rw [show i = nv by omega, mwy_t hfe] at hP
                        exact ih_30 (s2 + 1) (vp_updL b2 (4 * f + s2) (lN (mwy feet sort order nv f s2))) (by omega) (fun f2 s h1 h2 => by rw [pk_uLn (by omega)]; exact hb3 f2 s h1 h2) (fun s h => by by_cases e : s = s2; (subst e; exact pk_uLs); rw [pk_uLn (by omega)]; exact hb4 s (by omega)) (by omega) _ _ hP hS ls (lv_sub hl [1, 2, 3, 0] rfl)
                      · have c_55 := (not_congr (cv_le_nn (by omega) (by omega))).mp c_55
                        refine lv_lload hx hb dX6_many_58 (lv_at hl 4 rfl) ?_
                        refine lv_aload_n hx hb dX6_many_60 rfl (lv_at hl 0 rfl) ?_
                        refine an_get (ci := 6) (v := .ref (g.2.2 5)) (C := RX6) (T := TX6) (N := 23) hx hb hts iw_X6_many_X6 hown hK hP 0 rfl rfl 8 (by decide) (hts _ fl_X6_many_22) rfl dX6_many_61 ?_
                        refine lv_iload hx hb dX6_many_64 (lv_at hl 5 rfl) ?_
                        have hf9 := hfe i (by omega)
                        have hs9 := hso i (by omega)
                        refine an_iald (f := feet) hx hb hK hP 5 0 rfl rfl (by decide) (by omega) dX6_many_66 ?_
                        refine ln_toi (y := (nI (tn (feet i)))) (hf9.1) ?_
                        refine lv_iload_n hx hb dX6_many_67 rfl (lv_at hl 2 rfl) ?_
                        refine lv_icmp_gt (tgt := 108) hx hb dX6_many_68 (by decide) (fun c_68 => ?_) (fun c_68 => ?_)
                        · have c_68 := (cv_lt_nn (by omega) (by omega)).mp c_68
                          refine lv_lconst (v := (lN (0))) hx hb dX6_many_108 (by decide) ?_
                          refine ln_ladd hx hb dX6_many_109 ?_
                          refine lv_lstore (lv' := [(4, .long (lN (((if f = 0 then 1 else 0) + stq feet sort order (mwy feet sort order nv) f s2 i) + 0))), (0, .ref (g.2.2 0)), (1, .int (nI (f0))), (2, .int (nI (f))), (3, .int (nI (s2))), (6, .int (nI (i)))]) hx hb dX6_many_110 hl (by decide) rfl (fun ls hl => ?_)
                          refine lv_iinc (v := (nI (i + 1))) (lv' := [(6, .int (nI (i + 1))), (4, .long (lN (((if f = 0 then 1 else 0) + stq feet sort order (mwy feet sort order nv) f s2 i) + 0))), (0, .ref (g.2.2 0)), (1, .int (nI (f0))), (2, .int (nI (f))), (3, .int (nI (s2)))]) hx hb dX6_many_112 hl (k := 5) rfl (nI_add _ 1) (by decide) rfl (fun ls hl => ?_)
                          refine lv_goto (tgt := 49) hx hb dX6_many_115 (by decide) ?_
                          rw [stq_n (fun z => absurd z.1 (by omega))] at hl
                          exact ih_49 (i + 1) (by omega) (by omega) _ _ hP hS ls (lv_sub hl [2, 3, 4, 5, 1, 0] rfl)
                        · have c_68 := (not_congr (cv_lt_nn (by omega) (by omega))).mp c_68
                          refine lv_aload_n hx hb dX6_many_71 rfl (lv_at hl 0 rfl) ?_
                          refine lv_iload_n hx hb dX6_many_72 rfl (lv_at hl 3 rfl) ?_
                          refine lv_iload hx hb dX6_many_73 (lv_at hl 5 rfl) ?_
                          refine ro_call (va_runV (As := [.int (nI (s2)), .int (nI (i))]) (rest := [.long (lN ((if f = 0 then 1 else 0) + stq feet sort order (mwy feet sort order nv) f s2 i))]) ⟨hx, hb, hml, hown, hts⟩ (c_X6_isAfter l (g := g) (trace := trace) (value := value) (draft := draft) (typed := typed) (vocables := nI (nv)) (letter := letter) (long1 := long1) (feet := feet) (sort := sort) (order := order) (left := left) (opn := b2) (own := own) (other := other) (pick := pick) (parts := parts) (frm := frm) (size := size) (isYear := isYear) (isNext := isNext) (ways := ways) (nextWays := nextWays) (s2) (i) (by omega) (by omega)) (cwV 2 hts gX6_many_X6_isAfter rfl rfl rfl (by decide +kernel) ⟨Nat.le_of_ble_eq_true rfl, Nat.le_of_ble_eq_true rfl⟩) (pre_V pW_bl (va_recv hK hP (ci := 6) (q0 := 0) rfl rfl) (fun U hU hW => pW_of hP hK hN hU hW)) rfl rfl hl.1 rfl (lv_room (Nat.le_of_ble_eq_true rfl)) dX6_many_75 ⟨Nat.zero_le _, Nat.zero_le _⟩) ?_
                          refine lv_if_eq (tgt := 108) hx hb dX6_many_78 (by decide) (fun c_78 => ?_) (fun c_78 => ?_)
                          · have c_78 := if_n c_78
                            refine lv_lconst (v := (lN (0))) hx hb dX6_many_108 (by decide) ?_
                            refine ln_ladd hx hb dX6_many_109 ?_
                            refine lv_lstore (lv' := [(4, .long (lN (((if f = 0 then 1 else 0) + stq feet sort order (mwy feet sort order nv) f s2 i) + 0))), (0, .ref (g.2.2 0)), (1, .int (nI (f0))), (2, .int (nI (f))), (3, .int (nI (s2))), (6, .int (nI (i)))]) hx hb dX6_many_110 hl (by decide) rfl (fun ls hl => ?_)
                            refine lv_iinc (v := (nI (i + 1))) (lv' := [(6, .int (nI (i + 1))), (4, .long (lN (((if f = 0 then 1 else 0) + stq feet sort order (mwy feet sort order nv) f s2 i) + 0))), (0, .ref (g.2.2 0)), (1, .int (nI (f0))), (2, .int (nI (f))), (3, .int (nI (s2)))]) hx hb dX6_many_112 hl (k := 5) rfl (nI_add _ 1) (by decide) rfl (fun ls hl => ?_)
                            refine lv_goto (tgt := 49) hx hb dX6_many_115 (by decide) ?_
                            rw [stq_n (fun z => absurd z.2 c_78)] at hl
                            exact ih_49 (i + 1) (by omega) (by omega) _ _ hP hS ls (lv_sub hl [2, 3, 4, 5, 1, 0] rfl)
                          · have c_78 := if_p c_78
                            refine lv_aload_n hx hb dX6_many_81 rfl (lv_at hl 0 rfl) ?_
                            refine an_get (ci := 6) (v := .ref (g.2.2 9)) (C := RX6) (T := TX6) (N := 23) hx hb hts iw_X6_many_X6 hown hK hP 0 rfl rfl 12 (by decide) (hts _ fl_X6_many_36) rfl dX6_many_82 ?_
                            refine lv_iconst (v := (nI (4))) hx hb dX6_many_85 (by decide) ?_
                            refine lv_iload_n hx hb dX6_many_86 rfl (lv_at hl 2 rfl) ?_
                            refine lv_aload_n hx hb dX6_many_87 rfl (lv_at hl 0 rfl) ?_
                            refine an_get (ci := 6) (v := .ref (g.2.2 5)) (C := RX6) (T := TX6) (N := 23) hx hb hts iw_X6_many_X6 hown hK hP 0 rfl rfl 8 (by decide) (hts _ fl_X6_many_22) rfl dX6_many_88 ?_
                            refine lv_iload hx hb dX6_many_91 (lv_at hl 5 rfl) ?_
                            refine an_iald (f := feet) hx hb hK hP 5 0 rfl rfl (by decide) (by omega) dX6_many_93 ?_
                            refine ln_toi (y := (nI (tn (feet i)))) (hf9.1) ?_
                            refine ln_isub hx hb (by omega) dX6_many_94 ?_
                            refine ln_imul hx hb dX6_many_95 ?_
                            refine lv_aload_n hx hb dX6_many_96 rfl (lv_at hl 0 rfl) ?_
                            refine an_get (ci := 6) (v := .ref (g.2.2 6)) (C := RX6) (T := TX6) (N := 23) hx hb hts iw_X6_many_X6 hown hK hP 0 rfl rfl 9 (by decide) (hts _ fl_X6_many_25) rfl dX6_many_97 ?_
                            refine lv_iload hx hb dX6_many_100 (lv_at hl 5 rfl) ?_
                            refine an_iald (f := sort) hx hb hK hP 6 0 rfl rfl (by decide) (by omega) dX6_many_102 ?_
                            refine ln_toi (y := (nI (tn (sort i)))) (hs9.1) ?_
                            refine ln_iadd hx hb dX6_many_103 ?_
                            refine an_lald (f := b2) hx hb hK hP 9 1 rfl rfl (by decide) (by omega) dX6_many_104 ?_
                            refine ln_tol (y := (lN (mwy feet sort order nv (f - tn (feet i)) (tn (sort i))))) (hb3 _ _ (by omega) (by omega)) ?_
                            refine lv_goto (tgt := 109) hx hb dX6_many_105 (by decide) ?_
                            refine ln_ladd hx hb dX6_many_109 ?_
                            refine lv_lstore (lv' := [(4, .long (lN (((if f = 0 then 1 else 0) + stq feet sort order (mwy feet sort order nv) f s2 i) + (mwy feet sort order nv (f - tn (feet i)) (tn (sort i)))))), (0, .ref (g.2.2 0)), (1, .int (nI (f0))), (2, .int (nI (f))), (3, .int (nI (s2))), (6, .int (nI (i)))]) hx hb dX6_many_110 hl (by decide) rfl (fun ls hl => ?_)
                            refine lv_iinc (v := (nI (i + 1))) (lv' := [(6, .int (nI (i + 1))), (4, .long (lN (((if f = 0 then 1 else 0) + stq feet sort order (mwy feet sort order nv) f s2 i) + (mwy feet sort order nv (f - tn (feet i)) (tn (sort i)))))), (0, .ref (g.2.2 0)), (1, .int (nI (f0))), (2, .int (nI (f))), (3, .int (nI (s2)))]) hx hb dX6_many_112 hl (k := 5) rfl (nI_add _ 1) (by decide) rfl (fun ls hl => ?_)
                            refine lv_goto (tgt := 49) hx hb dX6_many_115 (by decide) ?_
                            rw [Nat.add_assoc, stq_y (by omega) c_78] at hl
                            exact ih_49 (i + 1) (by omega) (by omega) _ _ hP hS ls (lv_sub hl [2, 3, 4, 5, 1, 0] rfl)
                  exact lp_49 (nv - (0) + 1) 0 (Nat.zero_le _) (Nat.lt_succ_self _) _ _ hP hS ls (lv_sub hl [2, 3, 4, 5, 1, 0] rfl)
                · have c_36 := (cz_eq_n (by omega)).mp c_36
                  refine lv_lconst (v := (lN (1))) hx hb dX6_many_39 (by decide) ?_
                  refine ln_tol (y := (lN ((if f = 0 then 1 else 0) + stq feet sort order (mwy feet sort order nv) f s2 0))) (by rw [if_pos c_36]; rfl) ?_
                  refine lv_goto (tgt := 44) hx hb dX6_many_40 (by decide) ?_
                  refine lv_lstore (lv' := [(4, .long (lN ((if f = 0 then 1 else 0) + stq feet sort order (mwy feet sort order nv) f s2 0))), (0, .ref (g.2.2 0)), (1, .int (nI (f0))), (2, .int (nI (f))), (3, .int (nI (s2)))]) hx hb dX6_many_44 hl (by decide) rfl (fun ls hl => ?_)
                  refine lv_iconst (v := (nI (0))) hx hb dX6_many_46 (by decide) ?_
                  refine lv_istore (lv' := [(6, .int (nI (0))), (4, .long (lN ((if f = 0 then 1 else 0) + stq feet sort order (mwy feet sort order nv) f s2 0))), (0, .ref (g.2.2 0)), (1, .int (nI (f0))), (2, .int (nI (f))), (3, .int (nI (s2)))]) hx hb dX6_many_47 hl (by decide) rfl (fun ls hl => ?_)
                  have lp_49 : ∀ (n : Nat) (i : Nat), (i ≤ nv) → nv - i < n → ∀ (H : Heap) (locs : List Loc), va_P g.1 vwCl (wM g trace value draft typed (nI (nv)) letter long1 feet sort order left b2 own other pick parts frm size isYear isNext ways nextWays) H → va_S (aW 19 g.2.2 s.heap.size) s.heap H locs → ∀ (ls : Array Slot), lv_has ls 7 [(0, .ref (g.2.2 0)), (1, .int (nI (f0))), (2, .int (nI (f))), (3, .int (nI (s2))), (4, .long (lN ((if f = 0 then 1 else 0) + stq feet sort order (mwy feet sort order nv) f s2 i))), (6, .int (nI (i)))] → W p l e (headSpec wsX6_many ({ frames := 1, cells := 0, slots := 0, locals := 25 })).room s m (([.ref (g.2.2 0), .int ((nI (f0)))] : List Value).toArray) below meth c H locs 0 0 (MQ below (va_Ql (fun (r : Int64) (z : (Nat → Int64)) => r = if 1 ≤ (nI (f0)).toInt ∧ (nI (f0)).toInt ≤ 8 then lN (mwy feet sort order nv (tn (nI (f0))) 3) else (-1 : Int64)) (fun (z : (Nat → Int64)) (t : State) => va_P g.1 vwCl (wM g trace value draft typed (nI (nv)) letter long1 feet sort order left z own other pick parts frm size isYear isNext ways nextWays) t.heap) (aW 19 g.2.2 s.heap.size)) (([.ref (g.2.2 0), .int ((nI (f0)))] : List Value).toArray) s 0 0 (aW 19 g.2.2 s.heap.size)) (F0 m 49 ls []) := by
                    intro n
                    induction n with
                    | zero => intro i hi hm; exact absurd hm (Nat.not_lt_zero _)
                    | succ n ih_49 =>
                      intro i hi hm_49 H locs hP hS ls hl
                      refine lv_iload hx hb dX6_many_49 (lv_at hl 5 rfl) ?_
                      refine lv_aload_n hx hb dX6_many_51 rfl (lv_at hl 0 rfl) ?_
                      refine an_get (ci := 6) (v := .int (nI (nv))) (C := RX6) (T := TX6) (N := 23) hx hb hts iw_X6_many_X6 hown hK hP 0 rfl rfl 5 (by decide) (hts _ fl_X6_many_124) rfl dX6_many_52 ?_
                      refine lv_icmp_ge (tgt := 118) hx hb dX6_many_55 (by decide) (fun c_55 => ?_) (fun c_55 => ?_)
                      · have c_55 := (cv_le_nn (by omega) (by omega)).mp c_55
                        refine lv_aload_n hx hb dX6_many_118 rfl (lv_at hl 0 rfl) ?_
                        refine an_get (ci := 6) (v := .ref (g.2.2 9)) (C := RX6) (T := TX6) (N := 23) hx hb hts iw_X6_many_X6 hown hK hP 0 rfl rfl 12 (by decide) (hts _ fl_X6_many_36) rfl dX6_many_119 ?_
                        refine lv_iconst (v := (nI (4))) hx hb dX6_many_122 (by decide) ?_
                        refine lv_iload_n hx hb dX6_many_123 rfl (lv_at hl 2 rfl) ?_
                        refine ln_imul hx hb dX6_many_124 ?_
                        refine lv_iload_n hx hb dX6_many_125 rfl (lv_at hl 3 rfl) ?_
                        refine ln_iadd hx hb dX6_many_126 ?_
                        refine lv_lload hx hb dX6_many_127 (lv_at hl 4 rfl) ?_
                        refine an_last (f := b2) (ws' := (wM g trace value draft typed (nI (nv)) letter long1 feet sort order left (vp_updL (b2) ((4 * f) + s2) (lN ((if f = 0 then 1 else 0) + stq feet sort order (mwy feet sort order nv) f s2 i))) own other pick parts frm size isYear isNext ways nextWays)) hx hb hK hP (wM_D hd) hS 9 1 rfl rfl (by decide) (by omega) rfl dX6_many_129 (fun H locs hP hS => ?_)
                        refine lv_iinc (v := (nI (s2 + 1))) (lv' := [(3, .int (nI (s2 + 1))), (0, .ref (g.2.2 0)), (1, .int (nI (f0))), (2, .int (nI (f))), (4, .long (lN ((if f = 0 then 1 else 0) + stq feet sort order (mwy feet sort order nv) f s2 i))), (6, .int (nI (i)))]) hx hb dX6_many_130 hl (k := 3) rfl (nI_add _ 1) (by decide) rfl (fun ls hl => ?_)
                        refine lv_goto (tgt := 30) hx hb dX6_many_133 (by decide) ?_
                        rw [show i = nv by omega, mwy_t hfe] at hP
                        exact ih_30 (s2 + 1) (vp_updL b2 (4 * f + s2) (lN (mwy feet sort order nv f s2))) (by omega) (fun f2 s h1 h2 => by rw [pk_uLn (by omega)]; exact hb3 f2 s h1 h2) (fun s h => by by_cases e : s = s2; (subst e; exact pk_uLs); rw [pk_uLn (by omega)]; exact hb4 s (by omega)) (by omega) _ _ hP hS ls (lv_sub hl [1, 2, 3, 0] rfl)
                      · have c_55 := (not_congr (cv_le_nn (by omega) (by omega))).mp c_55
                        refine lv_lload hx hb dX6_many_58 (lv_at hl 4 rfl) ?_
                        refine lv_aload_n hx hb dX6_many_60 rfl (lv_at hl 0 rfl) ?_
                        refine an_get (ci := 6) (v := .ref (g.2.2 5)) (C := RX6) (T := TX6) (N := 23) hx hb hts iw_X6_many_X6 hown hK hP 0 rfl rfl 8 (by decide) (hts _ fl_X6_many_22) rfl dX6_many_61 ?_
                        refine lv_iload hx hb dX6_many_64 (lv_at hl 5 rfl) ?_
                        have hf9 := hfe i (by omega)
                        have hs9 := hso i (by omega)
                        refine an_iald (f := feet) hx hb hK hP 5 0 rfl rfl (by decide) (by omega) dX6_many_66 ?_
                        refine ln_toi (y := (nI (tn (feet i)))) (hf9.1) ?_
                        refine lv_iload_n hx hb dX6_many_67 rfl (lv_at hl 2 rfl) ?_
                        refine lv_icmp_gt (tgt := 108) hx hb dX6_many_68 (by decide) (fun c_68 => ?_) (fun c_68 => ?_)
                        · have c_68 := (cv_lt_nn (by omega) (by omega)).mp c_68
                          refine lv_lconst (v := (lN (0))) hx hb dX6_many_108 (by decide) ?_
                          refine ln_ladd hx hb dX6_many_109 ?_
                          refine lv_lstore (lv' := [(4, .long (lN (((if f = 0 then 1 else 0) + stq feet sort order (mwy feet sort order nv) f s2 i) + 0))), (0, .ref (g.2.2 0)), (1, .int (nI (f0))), (2, .int (nI (f))), (3, .int (nI (s2))), (6, .int (nI (i)))]) hx hb dX6_many_110 hl (by decide) rfl (fun ls hl => ?_)
                          refine lv_iinc (v := (nI (i + 1))) (lv' := [(6, .int (nI (i + 1))), (4, .long (lN (((if f = 0 then 1 else 0) + stq feet sort order (mwy feet sort order nv) f s2 i) + 0))), (0, .ref (g.2.2 0)), (1, .int (nI (f0))), (2, .int (nI (f))), (3, .int (nI (s2)))]) hx hb dX6_many_112 hl (k := 5) rfl (nI_add _ 1) (by decide) rfl (fun ls hl => ?_)
                          refine lv_goto (tgt := 49) hx hb dX6_many_115 (by decide) ?_
                          rw [stq_n (fun z => absurd z.1 (by omega))] at hl
                          exact ih_49 (i + 1) (by omega) (by omega) _ _ hP hS ls (lv_sub hl [2, 3, 4, 5, 1, 0] rfl)
                        · have c_68 := (not_congr (cv_lt_nn (by omega) (by omega))).mp c_68
                          refine lv_aload_n hx hb dX6_many_71 rfl (lv_at hl 0 rfl) ?_
                          refine lv_iload_n hx hb dX6_many_72 rfl (lv_at hl 3 rfl) ?_
                          refine lv_iload hx hb dX6_many_73 (lv_at hl 5 rfl) ?_
                          refine ro_call (va_runV (As := [.int (nI (s2)), .int (nI (i))]) (rest := [.long (lN ((if f = 0 then 1 else 0) + stq feet sort order (mwy feet sort order nv) f s2 i))]) ⟨hx, hb, hml, hown, hts⟩ (c_X6_isAfter l (g := g) (trace := trace) (value := value) (draft := draft) (typed := typed) (vocables := nI (nv)) (letter := letter) (long1 := long1) (feet := feet) (sort := sort) (order := order) (left := left) (opn := b2) (own := own) (other := other) (pick := pick) (parts := parts) (frm := frm) (size := size) (isYear := isYear) (isNext := isNext) (ways := ways) (nextWays := nextWays) (s2) (i) (by omega) (by omega)) (cwV 2 hts gX6_many_X6_isAfter rfl rfl rfl (by decide +kernel) ⟨Nat.le_of_ble_eq_true rfl, Nat.le_of_ble_eq_true rfl⟩) (pre_V pW_bl (va_recv hK hP (ci := 6) (q0 := 0) rfl rfl) (fun U hU hW => pW_of hP hK hN hU hW)) rfl rfl hl.1 rfl (lv_room (Nat.le_of_ble_eq_true rfl)) dX6_many_75 ⟨Nat.zero_le _, Nat.zero_le _⟩) ?_
                          refine lv_if_eq (tgt := 108) hx hb dX6_many_78 (by decide) (fun c_78 => ?_) (fun c_78 => ?_)
                          · have c_78 := if_n c_78
                            refine lv_lconst (v := (lN (0))) hx hb dX6_many_108 (by decide) ?_
                            refine ln_ladd hx hb dX6_many_109 ?_
                            refine lv_lstore (lv' := [(4, .long (lN (((if f = 0 then 1 else 0) + stq feet sort order (mwy feet sort order nv) f s2 i) + 0))), (0, .ref (g.2.2 0)), (1, .int (nI (f0))), (2, .int (nI (f))), (3, .int (nI (s2))), (6, .int (nI (i)))]) hx hb dX6_many_110 hl (by decide) rfl (fun ls hl => ?_)
                            refine lv_iinc (v := (nI (i + 1))) (lv' := [(6, .int (nI (i + 1))), (4, .long (lN (((if f = 0 then 1 else 0) + stq feet sort order (mwy feet sort order nv) f s2 i) + 0))), (0, .ref (g.2.2 0)), (1, .int (nI (f0))), (2, .int (nI (f))), (3, .int (nI (s2)))]) hx hb dX6_many_112 hl (k := 5) rfl (nI_add _ 1) (by decide) rfl (fun ls hl => ?_)
                            refine lv_goto (tgt := 49) hx hb dX6_many_115 (by decide) ?_
                            rw [stq_n (fun z => absurd z.2 c_78)] at hl
                            exact ih_49 (i + 1) (by omega) (by omega) _ _ hP hS ls (lv_sub hl [2, 3, 4, 5, 1, 0] rfl)
                          · have c_78 := if_p c_78
                            refine lv_aload_n hx hb dX6_many_81 rfl (lv_at hl 0 rfl) ?_
                            refine an_get (ci := 6) (v := .ref (g.2.2 9)) (C := RX6) (T := TX6) (N := 23) hx hb hts iw_X6_many_X6 hown hK hP 0 rfl rfl 12 (by decide) (hts _ fl_X6_many_36) rfl dX6_many_82 ?_
                            refine lv_iconst (v := (nI (4))) hx hb dX6_many_85 (by decide) ?_
                            refine lv_iload_n hx hb dX6_many_86 rfl (lv_at hl 2 rfl) ?_
                            refine lv_aload_n hx hb dX6_many_87 rfl (lv_at hl 0 rfl) ?_
                            refine an_get (ci := 6) (v := .ref (g.2.2 5)) (C := RX6) (T := TX6) (N := 23) hx hb hts iw_X6_many_X6 hown hK hP 0 rfl rfl 8 (by decide) (hts _ fl_X6_many_22) rfl dX6_many_88 ?_
                            refine lv_iload hx hb dX6_many_91 (lv_at hl 5 rfl) ?_
                            refine an_iald (f := feet) hx hb hK hP 5 0 rfl rfl (by decide) (by omega) dX6_many_93 ?_
                            refine ln_toi (y := (nI (tn (feet i)))) (hf9.1) ?_
                            refine ln_isub hx hb (by omega) dX6_many_94 ?_
                            refine ln_imul hx hb dX6_many_95 ?_
                            refine lv_aload_n hx hb dX6_many_96 rfl (lv_at hl 0 rfl) ?_
                            refine an_get (ci := 6) (v := .ref (g.2.2 6)) (C := RX6) (T := TX6) (N := 23) hx hb hts iw_X6_many_X6 hown hK hP 0 rfl rfl 9 (by decide) (hts _ fl_X6_many_25) rfl dX6_many_97 ?_
                            refine lv_iload hx hb dX6_many_100 (lv_at hl 5 rfl) ?_
                            refine an_iald (f := sort) hx hb hK hP 6 0 rfl rfl (by decide) (by omega) dX6_many_102 ?_
                            refine ln_toi (y := (nI (tn (sort i)))) (hs9.1) ?_
                            refine ln_iadd hx hb dX6_many_103 ?_
                            refine an_lald (f := b2) hx hb hK hP 9 1 rfl rfl (by decide) (by omega) dX6_many_104 ?_
                            refine ln_tol (y := (lN (mwy feet sort order nv (f - tn (feet i)) (tn (sort i))))) (hb3 _ _ (by omega) (by omega)) ?_
                            refine lv_goto (tgt := 109) hx hb dX6_many_105 (by decide) ?_
                            refine ln_ladd hx hb dX6_many_109 ?_
                            refine lv_lstore (lv' := [(4, .long (lN (((if f = 0 then 1 else 0) + stq feet sort order (mwy feet sort order nv) f s2 i) + (mwy feet sort order nv (f - tn (feet i)) (tn (sort i)))))), (0, .ref (g.2.2 0)), (1, .int (nI (f0))), (2, .int (nI (f))), (3, .int (nI (s2))), (6, .int (nI (i)))]) hx hb dX6_many_110 hl (by decide) rfl (fun ls hl => ?_)
                            refine lv_iinc (v := (nI (i + 1))) (lv' := [(6, .int (nI (i + 1))), (4, .long (lN (((if f = 0 then 1 else 0) + stq feet sort order (mwy feet sort order nv) f s2 i) + (mwy feet sort order nv (f - tn (feet i)) (tn (sort i)))))), (0, .ref (g.2.2 0)), (1, .int (nI (f0))), (2, .int (nI (f))), (3, .int (nI (s2)))]) hx hb dX6_many_112 hl (k := 5) rfl (nI_add _ 1) (by decide) rfl (fun ls hl => ?_)
                            refine lv_goto (tgt := 49) hx hb dX6_many_115 (by decide) ?_
                            rw [Nat.add_assoc, stq_y (by omega) c_78] at hl
                            exact ih_49 (i + 1) (by omega) (by omega) _ _ hP hS ls (lv_sub hl [2, 3, 4, 5, 1, 0] rfl)
                  exact lp_49 (nv - (0) + 1) 0 (Nat.zero_le _) (Nat.lt_succ_self _) _ _ hP hS ls (lv_sub hl [2, 3, 4, 5, 1, 0] rfl)
          exact lp_30 (4 - (0) + 1) 0 b (Nat.zero_le _) (hb2) (fun s h => absurd h (Nat.not_lt_zero s)) (Nat.lt_succ_self _) _ _ hP hS ls (lv_sub hl [1, 2, 3, 0] rfl)
    exact lp_23 (f0 + 1 - (0) + 1) 0 opn (by omega) (fun f2 s h1 h2 => absurd h1 (Nat.not_lt_zero f2)) (Nat.lt_succ_self _) _ _ hP hS ls (lv_sub hl [1, 2, 0] rfl)
  · have c_14 := if_n c_14
    refine lv_ldc2 hx hb hown (hts (.constantLong RX6 129 (-1)) (by decide +kernel)) dX6_many_17 ?_
    exact wr_lret (opn) hx hb hr hlocks (by rw [if_neg (by omega)]) (fun t ht => show va_P g.1 vwCl (wM g trace value draft typed (nI (nv)) letter long1 feet sort order left opn own other pick parts frm size isYear isNext ways nextWays) t.heap by rw [ht]; exact hP) hS dX6_many_20
