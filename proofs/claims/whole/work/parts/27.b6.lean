set_option maxHeartbeats 200000 in
set_option maxRecDepth 100000 in
theorem c_X6_in (l : Launch) (x : Int32) (lo : Nat) (hi : Nat) (h1 : lo < 2 ^ 63) (h2 : hi < 2 ^ 63) : Met l yX6_in wsX6_in ({ frames := 0, cells := 0, slots := 0, locals := 0 }) (va_Pc ([.long (x.toInt64), .long (lN (lo)), .long (lN (hi))]) (fun _ => True)) (ro_Q (.int (if ((lo : Nat) : Int) ≤ x.toInt ∧ x.toInt ≤ ((hi : Nat) : Int) then 1 else 0))) 0 0 (fun _ => False) := by
  refine Met.ofW (cc := cX6_in) (maxL := 6) (ret := (some .boolean)) (by decide) rfl ?_
  intro p e s m args below meth c s₁ B hml hv
  obtain ⟨rfl, -⟩ := hv
  have hx := B.exec
  have hb := B.bytes
  have hr := B.returns
  have hts := atoms_spec (ws := wsX6_in) B.pre
  have hown : s.vm.findClass RX6 = some m.cls := findClass_of_methodNamed B.named
  have hlocks := B.notSynchronized
  have hl := lv_entry ([.long (x.toInt64), .long (lN (lo)), .long (lN (hi))]) (n := 6) (Nat.le_of_ble_eq_true rfl)
  rw [lg_entry_eq]
  generalize (lg_sl ([.long (x.toInt64), .long (lN (lo)), .long (lN (hi))]) ++ List.replicate (6 - (lg_sl ([.long (x.toInt64), .long (lN (lo)), .long (lN (hi))])).length) Slot.unset).toArray = ls at hl ⊢
  have hl : lv_has ls 6 [(0, .long (x.toInt64)), (2, .long (lN (lo))), (4, .long (lN (hi)))] := hl
  refine lv_lload_n hx hb dX6_in_0 rfl (lv_at hl 0 rfl) ?_
  refine lv_lload_n hx hb dX6_in_1 rfl (lv_at hl 1 rfl) ?_
  refine W.lcmp hx hb dX6_in_2 ?_
  refine lv_if_lt (tgt := 17) hx hb dX6_in_3 (by decide) (fun c_3 => ?_) (fun c_3 => ?_)
  · have c_3 := (cy_lt x (by omega)).1 c_3
    refine lv_iconst (v := (nI (0))) hx hb dX6_in_17 (by decide) ?_
    exact ro_zret hx hb hr hlocks (rfl) (zero_if (by first | omega | assumption)) dX6_in_18
  · have c_3 := (cy_lt x (by omega)).2 c_3
    refine lv_lload_n hx hb dX6_in_6 rfl (lv_at hl 0 rfl) ?_
    refine lv_lload hx hb dX6_in_7 (lv_at hl 2 rfl) ?_
    refine W.lcmp hx hb dX6_in_9 ?_
    refine lv_if_gt (tgt := 17) hx hb dX6_in_10 (by decide) (fun c_10 => ?_) (fun c_10 => ?_)
    · have c_10 := (cy_gt x (by omega)).1 c_10
      refine lv_iconst (v := (nI (0))) hx hb dX6_in_17 (by decide) ?_
      exact ro_zret hx hb hr hlocks (rfl) (zero_if (by first | omega | assumption)) dX6_in_18
    · have c_10 := (cy_gt x (by omega)).2 c_10
      refine lv_iconst (v := (nI (1))) hx hb dX6_in_13 (by decide) ?_
      refine lv_goto (tgt := 18) hx hb dX6_in_14 (by decide) ?_
      exact ro_zret hx hb hr hlocks (rfl) (one_if (by first | omega | assumption)) dX6_in_18
set_option maxHeartbeats 200000 in
set_option maxRecDepth 100000 in
theorem c_X6_in_w (l : Launch) (x : Int32) (lo : Nat) (y : Int32) (h1 : lo < 2 ^ 63) : Met l yX6_in wsX6_in ({ frames := 0, cells := 0, slots := 0, locals := 0 }) (va_Pc ([.long (x.toInt64), .long (lN (lo)), .long (y.toInt64)]) (fun _ => True)) (ro_Q (.int (if ((lo : Nat) : Int) ≤ x.toInt ∧ x.toInt ≤ y.toInt then 1 else 0))) 0 0 (fun _ => False) := by
  refine Met.ofW (cc := cX6_in) (maxL := 6) (ret := (some .boolean)) (by decide) rfl ?_
  intro p e s m args below meth c s₁ B hml hv
  obtain ⟨rfl, -⟩ := hv
  have hx := B.exec
  have hb := B.bytes
  have hr := B.returns
  have hts := atoms_spec (ws := wsX6_in) B.pre
  have hown : s.vm.findClass RX6 = some m.cls := findClass_of_methodNamed B.named
  have hlocks := B.notSynchronized
  have hl := lv_entry ([.long (x.toInt64), .long (lN (lo)), .long (y.toInt64)]) (n := 6) (Nat.le_of_ble_eq_true rfl)
  rw [lg_entry_eq]
  generalize (lg_sl ([.long (x.toInt64), .long (lN (lo)), .long (y.toInt64)]) ++ List.replicate (6 - (lg_sl ([.long (x.toInt64), .long (lN (lo)), .long (y.toInt64)])).length) Slot.unset).toArray = ls at hl ⊢
  have hl : lv_has ls 6 [(0, .long (x.toInt64)), (2, .long (lN (lo))), (4, .long (y.toInt64))] := hl
  refine lv_lload_n hx hb dX6_in_0 rfl (lv_at hl 0 rfl) ?_
  refine lv_lload_n hx hb dX6_in_1 rfl (lv_at hl 1 rfl) ?_
  refine W.lcmp hx hb dX6_in_2 ?_
  refine lv_if_lt (tgt := 17) hx hb dX6_in_3 (by decide) (fun c_3 => ?_) (fun c_3 => ?_)
  · have c_3 := (cy_lt x (by omega)).1 c_3
    refine lv_iconst (v := (nI (0))) hx hb dX6_in_17 (by decide) ?_
    exact ro_zret hx hb hr hlocks (rfl) (zero_if (by first | omega | assumption)) dX6_in_18
  · have c_3 := (cy_lt x (by omega)).2 c_3
    refine lv_lload_n hx hb dX6_in_6 rfl (lv_at hl 0 rfl) ?_
    refine lv_lload hx hb dX6_in_7 (lv_at hl 2 rfl) ?_
    refine W.lcmp hx hb dX6_in_9 ?_
    refine lv_if_gt (tgt := 17) hx hb dX6_in_10 (by decide) (fun c_10 => ?_) (fun c_10 => ?_)
    · have c_10 := (cu_gt x y).1 c_10
      refine lv_iconst (v := (nI (0))) hx hb dX6_in_17 (by decide) ?_
      exact ro_zret hx hb hr hlocks (rfl) (zero_if (by first | omega | assumption)) dX6_in_18
    · have c_10 := (cu_gt x y).2 c_10
      refine lv_iconst (v := (nI (1))) hx hb dX6_in_13 (by decide) ?_
      refine lv_goto (tgt := 18) hx hb dX6_in_14 (by decide) ?_
      exact ro_zret hx hb hr hlocks (rfl) (one_if (by first | omega | assumption)) dX6_in_18
set_option maxHeartbeats 200000 in
set_option maxRecDepth 100000 in
theorem c_X6_isCapital (l : Launch) (b : Int32)  : Met l yX6_isCapital wsX6_isCapital ({ frames := 1, cells := 0, slots := 0, locals := 25 }) (va_Pc ([.int (b)]) (fun _ => True)) (ro_Q (.int (if cap b then 1 else 0))) 0 0 (fun _ => False) := by
  refine Met.ofW (cc := cX6_isCapital) (maxL := 1) (ret := (some .boolean)) (by decide) rfl ?_
  intro p e s m args below meth c s₁ B hml hv
  obtain ⟨rfl, -⟩ := hv
  have hx := B.exec
  have hb := B.bytes
  have hr := B.returns
  have hts := atoms_spec (ws := wsX6_isCapital) B.pre
  have hown : s.vm.findClass RX6 = some m.cls := findClass_of_methodNamed B.named
  have hlocks := B.notSynchronized
  have hl := lv_entry ([.int (b)]) (n := 1) (Nat.le_of_ble_eq_true rfl)
  rw [lg_entry_eq]
  generalize (lg_sl ([.int (b)]) ++ List.replicate (1 - (lg_sl ([.int (b)])).length) Slot.unset).toArray = ls at hl ⊢
  have hl : lv_has ls 1 [(0, .int (b))] := hl
  refine lv_iload_n hx hb dX6_isCapital_0 rfl (lv_at hl 0 rfl) ?_
  refine lv_i2l hx hb dX6_isCapital_1 rfl ?_
  refine lv_ldc2 hx hb hown (hts (.constantLong RX6 85 (65)) (by decide +kernel)) dX6_isCapital_2 ?_
  refine ln_tol (y := lN 65) (by decide) ?_
  refine lv_ldc2 hx hb hown (hts (.constantLong RX6 87 (90)) (by decide +kernel)) dX6_isCapital_5 ?_
  refine ln_tol (y := lN 90) (by decide) ?_
  refine ro_call (va_runS (As := [.long ((b).toInt64), .long (lN (65)), .long (lN (90))]) (rest := []) ⟨hx, hb, hml, hown, hts⟩ (c_X6_in l ((b)) (65) (90) (by decide) (by decide)) (va_cwS 3 hts gX6_isCapital_X6_in rfl rfl rfl (by decide +kernel) ⟨Nat.le_of_ble_eq_true rfl, Nat.le_of_ble_eq_true rfl⟩) pre_0 rfl rfl hl.1 rfl (lv_room (Nat.le_of_ble_eq_true rfl)) dX6_isCapital_8 ⟨Nat.zero_le _, Nat.zero_le _⟩) ?_
  exact ro_zret hx hb hr hlocks (nar_if) (if_cg (by omega)) dX6_isCapital_11
set_option maxHeartbeats 200000 in
set_option maxRecDepth 100000 in
theorem c_X6_isLetter (l : Launch) (b : Int32)  : Met l yX6_isLetter wsX6_isLetter ({ frames := 2, cells := 0, slots := 0, locals := 45 }) (va_Pc ([.int (b)]) (fun _ => True)) (ro_Q (.int (if letr b then 1 else 0))) 0 0 (fun _ => False) := by
  refine Met.ofW (cc := cX6_isLetter) (maxL := 1) (ret := (some .boolean)) (by decide) rfl ?_
  intro p e s m args below meth c s₁ B hml hv
  obtain ⟨rfl, -⟩ := hv
  have hx := B.exec
  have hb := B.bytes
  have hr := B.returns
  have hts := atoms_spec (ws := wsX6_isLetter) B.pre
  have hown : s.vm.findClass RX6 = some m.cls := findClass_of_methodNamed B.named
  have hlocks := B.notSynchronized
  have hl := lv_entry ([.int (b)]) (n := 1) (Nat.le_of_ble_eq_true rfl)
  rw [lg_entry_eq]
  generalize (lg_sl ([.int (b)]) ++ List.replicate (1 - (lg_sl ([.int (b)])).length) Slot.unset).toArray = ls at hl ⊢
  have hl : lv_has ls 1 [(0, .int (b))] := hl
  refine lv_iload_n hx hb dX6_isLetter_0 rfl (lv_at hl 0 rfl) ?_
  refine lv_i2l hx hb dX6_isLetter_1 rfl ?_
  refine lv_ldc2 hx hb hown (hts (.constantLong RX6 77 (97)) (by decide +kernel)) dX6_isLetter_2 ?_
  refine ln_tol (y := lN 97) (by decide) ?_
  refine lv_ldc2 hx hb hown (hts (.constantLong RX6 79 (122)) (by decide +kernel)) dX6_isLetter_5 ?_
  refine ln_tol (y := lN 122) (by decide) ?_
  refine ro_call (va_runS (As := [.long ((b).toInt64), .long (lN (97)), .long (lN (122))]) (rest := []) ⟨hx, hb, hml, hown, hts⟩ (c_X6_in l ((b)) (97) (122) (by decide) (by decide)) (va_cwS 3 hts gX6_isLetter_X6_in rfl rfl rfl (by decide +kernel) ⟨Nat.le_of_ble_eq_true rfl, Nat.le_of_ble_eq_true rfl⟩) pre_0 rfl rfl hl.1 rfl (lv_room (Nat.le_of_ble_eq_true rfl)) dX6_isLetter_8 ⟨Nat.zero_le _, Nat.zero_le _⟩) ?_
  refine lv_if_ne (tgt := 21) hx hb dX6_isLetter_11 (by decide) (fun c_11 => ?_) (fun c_11 => ?_)
  · have c_11 := if_p c_11
    refine lv_iconst (v := (nI (1))) hx hb dX6_isLetter_21 (by decide) ?_
    refine lv_goto (tgt := 26) hx hb dX6_isLetter_22 (by decide) ?_
    exact ro_zret hx hb hr hlocks (rfl) (one_if (by first | omega | assumption)) dX6_isLetter_26
  · have c_11 := if_n c_11
    refine lv_iload_n hx hb dX6_isLetter_14 rfl (lv_at hl 0 rfl) ?_
    refine ro_call (va_runS (As := [.int (b)]) (rest := []) ⟨hx, hb, hml, hown, hts⟩ (c_X6_isCapital l (b)) (va_cwS 1 hts gX6_isLetter_X6_isCapital rfl rfl rfl (by decide +kernel) ⟨Nat.le_of_ble_eq_true rfl, Nat.le_of_ble_eq_true rfl⟩) pre_0 rfl rfl hl.1 rfl (lv_room (Nat.le_of_ble_eq_true rfl)) dX6_isLetter_15 ⟨Nat.zero_le _, Nat.zero_le _⟩) ?_
    refine lv_if_eq (tgt := 25) hx hb dX6_isLetter_18 (by decide) (fun c_18 => ?_) (fun c_18 => ?_)
    · have c_18 := if_n c_18
      refine lv_iconst (v := (nI (0))) hx hb dX6_isLetter_25 (by decide) ?_
      exact ro_zret hx hb hr hlocks (rfl) (zero_if (by first | omega | assumption)) dX6_isLetter_26
    · have c_18 := if_p c_18
      refine lv_iconst (v := (nI (1))) hx hb dX6_isLetter_21 (by decide) ?_
      refine lv_goto (tgt := 26) hx hb dX6_isLetter_22 (by decide) ?_
      exact ro_zret hx hb hr hlocks (rfl) (one_if (by first | omega | assumption)) dX6_isLetter_26
set_option maxHeartbeats 200000 in
set_option maxRecDepth 100000 in
theorem c_X6_isValue (l : Launch) (v : Int32)  : Met l yX6_isValue wsX6_isValue ({ frames := 0, cells := 0, slots := 0, locals := 0 }) (va_Pc ([.int (v)]) (fun _ => True)) (ro_Q (.int (if isVal v then 1 else 0))) 0 0 (fun _ => False) := by
  refine Met.ofW (cc := cX6_isValue) (maxL := 1) (ret := (some .boolean)) (by decide) rfl ?_
  intro p e s m args below meth c s₁ B hml hv
  obtain ⟨rfl, -⟩ := hv
  have hx := B.exec
  have hb := B.bytes
  have hr := B.returns
  have hts := atoms_spec (ws := wsX6_isValue) B.pre
  have hown : s.vm.findClass RX6 = some m.cls := findClass_of_methodNamed B.named
  have hlocks := B.notSynchronized
  have hl := lv_entry ([.int (v)]) (n := 1) (Nat.le_of_ble_eq_true rfl)
  rw [lg_entry_eq]
  generalize (lg_sl ([.int (v)]) ++ List.replicate (1 - (lg_sl ([.int (v)])).length) Slot.unset).toArray = ls at hl ⊢
  have hl : lv_has ls 1 [(0, .int (v))] := hl
  refine lv_iload_n hx hb dX6_isValue_0 rfl (lv_at hl 0 rfl) ?_
  refine lv_if_eq (tgt := 46) hx hb dX6_isValue_1 (by decide) (fun c_1 => ?_) (fun c_1 => ?_)
  · have c_1 := (cz_eq_i).mp c_1
    refine lv_iconst (v := (nI (1))) hx hb dX6_isValue_46 (by decide) ?_
    refine lv_goto (tgt := 51) hx hb dX6_isValue_47 (by decide) ?_
    exact ro_zret hx hb hr hlocks (rfl) (one_if (by first | omega | assumption)) dX6_isValue_51
  · have c_1 := (not_congr (cz_eq_i)).mp c_1
    refine lv_iload_n hx hb dX6_isValue_4 rfl (lv_at hl 0 rfl) ?_
    refine lv_iconst (v := (nI (1))) hx hb dX6_isValue_5 (by decide) ?_
    refine lv_icmp_eq (tgt := 46) hx hb dX6_isValue_6 (by decide) (fun c_6 => ?_) (fun c_6 => ?_)
    · have c_6 := (cv_eq_in (by omega)).mp c_6
      refine lv_iconst (v := (nI (1))) hx hb dX6_isValue_46 (by decide) ?_
      refine lv_goto (tgt := 51) hx hb dX6_isValue_47 (by decide) ?_
      exact ro_zret hx hb hr hlocks (rfl) (one_if (by first | omega | assumption)) dX6_isValue_51
    · have c_6 := (not_congr (cv_eq_in (by omega))).mp c_6
      refine lv_iload_n hx hb dX6_isValue_9 rfl (lv_at hl 0 rfl) ?_
      refine lv_iconst (v := (nI (5))) hx hb dX6_isValue_10 (by decide) ?_
      refine lv_icmp_eq (tgt := 46) hx hb dX6_isValue_11 (by decide) (fun c_11 => ?_) (fun c_11 => ?_)
      · have c_11 := (cv_eq_in (by omega)).mp c_11
        refine lv_iconst (v := (nI (1))) hx hb dX6_isValue_46 (by decide) ?_
        refine lv_goto (tgt := 51) hx hb dX6_isValue_47 (by decide) ?_
        exact ro_zret hx hb hr hlocks (rfl) (one_if (by first | omega | assumption)) dX6_isValue_51
      · have c_11 := (not_congr (cv_eq_in (by omega))).mp c_11
        refine lv_iload_n hx hb dX6_isValue_14 rfl (lv_at hl 0 rfl) ?_
        refine lv_bipush (v := (nI (10))) hx hb dX6_isValue_15 (by decide) ?_
        refine lv_icmp_eq (tgt := 46) hx hb dX6_isValue_17 (by decide) (fun c_17 => ?_) (fun c_17 => ?_)
        · have c_17 := (cv_eq_in (by omega)).mp c_17
          refine lv_iconst (v := (nI (1))) hx hb dX6_isValue_46 (by decide) ?_
          refine lv_goto (tgt := 51) hx hb dX6_isValue_47 (by decide) ?_
          exact ro_zret hx hb hr hlocks (rfl) (one_if (by first | omega | assumption)) dX6_isValue_51
        · have c_17 := (not_congr (cv_eq_in (by omega))).mp c_17
          refine lv_iload_n hx hb dX6_isValue_20 rfl (lv_at hl 0 rfl) ?_
          refine lv_bipush (v := (nI (50))) hx hb dX6_isValue_21 (by decide) ?_
          refine lv_icmp_eq (tgt := 46) hx hb dX6_isValue_23 (by decide) (fun c_23 => ?_) (fun c_23 => ?_)
          · have c_23 := (cv_eq_in (by omega)).mp c_23
            refine lv_iconst (v := (nI (1))) hx hb dX6_isValue_46 (by decide) ?_
            refine lv_goto (tgt := 51) hx hb dX6_isValue_47 (by decide) ?_
            exact ro_zret hx hb hr hlocks (rfl) (one_if (by first | omega | assumption)) dX6_isValue_51
          · have c_23 := (not_congr (cv_eq_in (by omega))).mp c_23
            refine lv_iload_n hx hb dX6_isValue_26 rfl (lv_at hl 0 rfl) ?_
            refine lv_bipush (v := (nI (100))) hx hb dX6_isValue_27 (by decide) ?_
            refine lv_icmp_eq (tgt := 46) hx hb dX6_isValue_29 (by decide) (fun c_29 => ?_) (fun c_29 => ?_)
            · have c_29 := (cv_eq_in (by omega)).mp c_29
              refine lv_iconst (v := (nI (1))) hx hb dX6_isValue_46 (by decide) ?_
              refine lv_goto (tgt := 51) hx hb dX6_isValue_47 (by decide) ?_
              exact ro_zret hx hb hr hlocks (rfl) (one_if (by first | omega | assumption)) dX6_isValue_51
            · have c_29 := (not_congr (cv_eq_in (by omega))).mp c_29
              refine lv_iload_n hx hb dX6_isValue_32 rfl (lv_at hl 0 rfl) ?_
              refine lv_sipush (v := (nI (500))) hx hb dX6_isValue_33 (by decide) ?_
              refine lv_icmp_eq (tgt := 46) hx hb dX6_isValue_36 (by decide) (fun c_36 => ?_) (fun c_36 => ?_)
              · have c_36 := (cv_eq_in (by omega)).mp c_36
                refine lv_iconst (v := (nI (1))) hx hb dX6_isValue_46 (by decide) ?_
                refine lv_goto (tgt := 51) hx hb dX6_isValue_47 (by decide) ?_
                exact ro_zret hx hb hr hlocks (rfl) (one_if (by first | omega | assumption)) dX6_isValue_51
              · have c_36 := (not_congr (cv_eq_in (by omega))).mp c_36
                refine lv_iload_n hx hb dX6_isValue_39 rfl (lv_at hl 0 rfl) ?_
                refine lv_sipush (v := (nI (1000))) hx hb dX6_isValue_40 (by decide) ?_
                refine lv_icmp_ne (tgt := 50) hx hb dX6_isValue_43 (by decide) (fun c_43 => ?_) (fun c_43 => ?_)
                · have c_43 := (not_congr (cv_eq_in (by omega))).mp c_43
                  refine lv_iconst (v := (nI (0))) hx hb dX6_isValue_50 (by decide) ?_
                  exact ro_zret hx hb hr hlocks (rfl) (zero_if (by first | omega | assumption)) dX6_isValue_51
                · have c_43 := (cv_eq_in (by omega)).mp c_43
                  refine lv_iconst (v := (nI (1))) hx hb dX6_isValue_46 (by decide) ?_
                  refine lv_goto (tgt := 51) hx hb dX6_isValue_47 (by decide) ?_
                  exact ro_zret hx hb hr hlocks (rfl) (one_if (by first | omega | assumption)) dX6_isValue_51
set_option maxHeartbeats 200000 in
set_option maxRecDepth 100000 in
theorem c_X6_isWay (l : Launch) (counting : Int32) (custom : Int32)  : Met l yX6_isWay wsX6_isWay ({ frames := 1, cells := 0, slots := 0, locals := 25 }) (va_Pc ([.int (counting), .int (custom)]) (fun _ => True)) (ro_Q (.int (if way counting custom then 1 else 0))) 0 0 (fun _ => False) := by
  refine Met.ofW (cc := cX6_isWay) (maxL := 2) (ret := (some .boolean)) (by decide) rfl ?_
  intro p e s m args below meth c s₁ B hml hv
  obtain ⟨rfl, -⟩ := hv
  have hx := B.exec
  have hb := B.bytes
  have hr := B.returns
  have hts := atoms_spec (ws := wsX6_isWay) B.pre
  have hown : s.vm.findClass RX6 = some m.cls := findClass_of_methodNamed B.named
  have hlocks := B.notSynchronized
  have hl := lv_entry ([.int (counting), .int (custom)]) (n := 2) (Nat.le_of_ble_eq_true rfl)
  rw [lg_entry_eq]
  generalize (lg_sl ([.int (counting), .int (custom)]) ++ List.replicate (2 - (lg_sl ([.int (counting), .int (custom)])).length) Slot.unset).toArray = ls at hl ⊢
  have hl : lv_has ls 2 [(0, .int (counting)), (1, .int (custom))] := hl
  refine lv_iload_n hx hb dX6_isWay_0 rfl (lv_at hl 0 rfl) ?_
  refine lv_i2l hx hb dX6_isWay_1 rfl ?_
  refine lv_lconst (v := (lN (0))) hx hb dX6_isWay_2 (by decide) ?_
  refine lv_ldc2 hx hb hown (hts (.constantLong RX6 95 (2)) (by decide +kernel)) dX6_isWay_3 ?_
  refine ln_tol (y := lN 2) (by decide) ?_
  refine ro_call (va_runS (As := [.long ((counting).toInt64), .long (lN (0)), .long (lN (2))]) (rest := []) ⟨hx, hb, hml, hown, hts⟩ (c_X6_in l ((counting)) (0) (2) (by decide) (by decide)) (va_cwS 3 hts gX6_isWay_X6_in rfl rfl rfl (by decide +kernel) ⟨Nat.le_of_ble_eq_true rfl, Nat.le_of_ble_eq_true rfl⟩) pre_0 rfl rfl hl.1 rfl (lv_room (Nat.le_of_ble_eq_true rfl)) dX6_isWay_6 ⟨Nat.zero_le _, Nat.zero_le _⟩) ?_
  refine lv_if_eq (tgt := 28) hx hb dX6_isWay_9 (by decide) (fun c_9 => ?_) (fun c_9 => ?_)
  · have c_9 := if_n c_9
    refine lv_iconst (v := (nI (0))) hx hb dX6_isWay_28 (by decide) ?_
    exact ro_zret hx hb hr hlocks (rfl) (zero_if (by first | omega | assumption)) dX6_isWay_29
  · have c_9 := if_p c_9
    refine lv_iload_n hx hb dX6_isWay_12 rfl (lv_at hl 1 rfl) ?_
    refine lv_i2l hx hb dX6_isWay_13 rfl ?_
    refine lv_lconst (v := (lN (0))) hx hb dX6_isWay_14 (by decide) ?_
    refine lv_ldc2 hx hb hown (hts (.constantLong RX6 71 (3)) (by decide +kernel)) dX6_isWay_15 ?_
    refine ln_tol (y := lN 3) (by decide) ?_
    refine ro_call (va_runS (As := [.long ((custom).toInt64), .long (lN (0)), .long (lN (3))]) (rest := []) ⟨hx, hb, hml, hown, hts⟩ (c_X6_in l ((custom)) (0) (3) (by decide) (by decide)) (va_cwS 3 hts gX6_isWay_X6_in rfl rfl rfl (by decide +kernel) ⟨Nat.le_of_ble_eq_true rfl, Nat.le_of_ble_eq_true rfl⟩) pre_0 rfl rfl hl.1 rfl (lv_room (Nat.le_of_ble_eq_true rfl)) dX6_isWay_18 ⟨Nat.zero_le _, Nat.zero_le _⟩) ?_
    refine lv_if_eq (tgt := 28) hx hb dX6_isWay_21 (by decide) (fun c_21 => ?_) (fun c_21 => ?_)
    · have c_21 := if_n c_21
      refine lv_iconst (v := (nI (0))) hx hb dX6_isWay_28 (by decide) ?_
      exact ro_zret hx hb hr hlocks (rfl) (zero_if (by first | omega | assumption)) dX6_isWay_29
    · have c_21 := if_p c_21
      refine lv_iconst (v := (nI (1))) hx hb dX6_isWay_24 (by decide) ?_
      refine lv_goto (tgt := 29) hx hb dX6_isWay_25 (by decide) ?_
      exact ro_zret hx hb hr hlocks (rfl) (one_if (by first | omega | assumption)) dX6_isWay_29
set_option maxHeartbeats 200000 in
set_option maxRecDepth 100000 in
theorem c_X6_isAsked (l : Launch) (ft : Int32) (y : Int32) (counting : Int32) (custom : Int32)  : Met l yX6_isAsked wsX6_isAsked ({ frames := 2, cells := 0, slots := 0, locals := 46 }) (va_Pc ([.int (ft), .int (y), .int (counting), .int (custom)]) (fun _ => True)) (ro_Q (.int (if (1 ≤ ft.toInt ∧ ft.toInt ≤ 8) ∧ (0 ≤ y.toInt ∧ y.toInt ≤ 3000) ∧ (0 ≤ counting.toInt ∧ counting.toInt < 3) ∧ (0 ≤ custom.toInt ∧ custom.toInt < 4) then 1 else 0))) 0 0 (fun _ => False) := by
  refine Met.ofW (cc := cX6_isAsked) (maxL := 4) (ret := (some .boolean)) (by decide) rfl ?_
  intro p e s m args below meth c s₁ B hml hv
  obtain ⟨rfl, -⟩ := hv
  have hx := B.exec
  have hb := B.bytes
  have hr := B.returns
  have hts := atoms_spec (ws := wsX6_isAsked) B.pre
  have hown : s.vm.findClass RX6 = some m.cls := findClass_of_methodNamed B.named
  have hlocks := B.notSynchronized
  have hl := lv_entry ([.int (ft), .int (y), .int (counting), .int (custom)]) (n := 4) (Nat.le_of_ble_eq_true rfl)
  rw [lg_entry_eq]
  generalize (lg_sl ([.int (ft), .int (y), .int (counting), .int (custom)]) ++ List.replicate (4 - (lg_sl ([.int (ft), .int (y), .int (counting), .int (custom)])).length) Slot.unset).toArray = ls at hl ⊢
  have hl : lv_has ls 4 [(0, .int (ft)), (1, .int (y)), (2, .int (counting)), (3, .int (custom))] := hl
  refine lv_iload_n hx hb dX6_isAsked_0 rfl (lv_at hl 0 rfl) ?_
  refine lv_i2l hx hb dX6_isAsked_1 rfl ?_
  refine lv_lconst (v := (lN (1))) hx hb dX6_isAsked_2 (by decide) ?_
  refine lv_ldc2 hx hb hown (hts (.constantLong RX6 115 (8)) (by decide +kernel)) dX6_isAsked_3 ?_
  refine ln_tol (y := lN 8) (by decide) ?_
  refine ro_call (va_runS (As := [.long ((ft).toInt64), .long (lN (1)), .long (lN (8))]) (rest := []) ⟨hx, hb, hml, hown, hts⟩ (c_X6_in l ((ft)) (1) (8) (by decide) (by decide)) (va_cwS 3 hts gX6_isAsked_X6_in rfl rfl rfl (by decide +kernel) ⟨Nat.le_of_ble_eq_true rfl, Nat.le_of_ble_eq_true rfl⟩) pre_0 rfl rfl hl.1 rfl (lv_room (Nat.le_of_ble_eq_true rfl)) dX6_isAsked_6 ⟨Nat.zero_le _, Nat.zero_le _⟩) ?_
  refine lv_if_eq (tgt := 36) hx hb dX6_isAsked_9 (by decide) (fun c_9 => ?_) (fun c_9 => ?_)
  · have c_9 := if_n c_9
    refine lv_iconst (v := (nI (0))) hx hb dX6_isAsked_36 (by decide) ?_
    exact ro_zret hx hb hr hlocks (rfl) (zero_if (by first | omega | assumption)) dX6_isAsked_37
  · have c_9 := if_p c_9
    refine lv_iload_n hx hb dX6_isAsked_12 rfl (lv_at hl 1 rfl) ?_
    refine lv_i2l hx hb dX6_isAsked_13 rfl ?_
    refine lv_lconst (v := (lN (0))) hx hb dX6_isAsked_14 (by decide) ?_
    refine lv_ldc2 hx hb hown (hts (.constantLong RX6 142 (3000)) (by decide +kernel)) dX6_isAsked_15 ?_
    refine ln_tol (y := lN 3000) (by decide) ?_
    refine ro_call (va_runS (As := [.long ((y).toInt64), .long (lN (0)), .long (lN (3000))]) (rest := []) ⟨hx, hb, hml, hown, hts⟩ (c_X6_in l ((y)) (0) (3000) (by decide) (by decide)) (va_cwS 3 hts gX6_isAsked_X6_in rfl rfl rfl (by decide +kernel) ⟨Nat.le_of_ble_eq_true rfl, Nat.le_of_ble_eq_true rfl⟩) pre_0 rfl rfl hl.1 rfl (lv_room (Nat.le_of_ble_eq_true rfl)) dX6_isAsked_18 ⟨Nat.zero_le _, Nat.zero_le _⟩) ?_
    refine lv_if_eq (tgt := 36) hx hb dX6_isAsked_21 (by decide) (fun c_21 => ?_) (fun c_21 => ?_)
    · have c_21 := if_n c_21
      refine lv_iconst (v := (nI (0))) hx hb dX6_isAsked_36 (by decide) ?_
      exact ro_zret hx hb hr hlocks (rfl) (zero_if (by first | omega | assumption)) dX6_isAsked_37
    · have c_21 := if_p c_21
      refine lv_iload_n hx hb dX6_isAsked_24 rfl (lv_at hl 2 rfl) ?_
      refine lv_iload_n hx hb dX6_isAsked_25 rfl (lv_at hl 3 rfl) ?_
      refine ro_call (va_runS (As := [.int (counting), .int (custom)]) (rest := []) ⟨hx, hb, hml, hown, hts⟩ (c_X6_isWay l (counting) (custom)) (va_cwS 2 hts gX6_isAsked_X6_isWay rfl rfl rfl (by decide +kernel) ⟨Nat.le_of_ble_eq_true rfl, Nat.le_of_ble_eq_true rfl⟩) pre_0 rfl rfl hl.1 rfl (lv_room (Nat.le_of_ble_eq_true rfl)) dX6_isAsked_26 ⟨Nat.zero_le _, Nat.zero_le _⟩) ?_
      refine lv_if_eq (tgt := 36) hx hb dX6_isAsked_29 (by decide) (fun c_29 => ?_) (fun c_29 => ?_)
      · have c_29 := if_n c_29
        refine lv_iconst (v := (nI (0))) hx hb dX6_isAsked_36 (by decide) ?_
        exact ro_zret hx hb hr hlocks (rfl) (zero_if (by first | omega | assumption)) dX6_isAsked_37
      · have c_29 := if_p c_29
        refine lv_iconst (v := (nI (1))) hx hb dX6_isAsked_32 (by decide) ?_
        refine lv_goto (tgt := 37) hx hb dX6_isAsked_33 (by decide) ?_
        exact ro_zret hx hb hr hlocks (rfl) (one_if (by first | omega | assumption)) dX6_isAsked_37
set_option maxHeartbeats 200000 in
set_option maxRecDepth 100000 in
theorem c_X6_place (l : Launch) (f : Nat) (s2 : Nat) (y : Nat)  : Met l yX6_place wsX6_place ({ frames := 0, cells := 0, slots := 0, locals := 0 }) (va_Pc ([.int (nI (f)), .int (nI (s2)), .int (nI (y))]) (fun _ => True)) (ro_Q (.int (nI (3001 * (4 * f + s2) + y)))) 0 0 (fun _ => False) := by
  refine Met.ofW (cc := cX6_place) (maxL := 3) (ret := (some .int)) (by decide) rfl ?_
  intro p e s m args below meth c s₁ B hml hv
  obtain ⟨rfl, -⟩ := hv
  have hx := B.exec
  have hb := B.bytes
  have hr := B.returns
  have hts := atoms_spec (ws := wsX6_place) B.pre
  have hown : s.vm.findClass RX6 = some m.cls := findClass_of_methodNamed B.named
  have hlocks := B.notSynchronized
  have hl := lv_entry ([.int (nI (f)), .int (nI (s2)), .int (nI (y))]) (n := 3) (Nat.le_of_ble_eq_true rfl)
  rw [lg_entry_eq]
  generalize (lg_sl ([.int (nI (f)), .int (nI (s2)), .int (nI (y))]) ++ List.replicate (3 - (lg_sl ([.int (nI (f)), .int (nI (s2)), .int (nI (y))])).length) Slot.unset).toArray = ls at hl ⊢
  have hl : lv_has ls 3 [(0, .int (nI (f))), (1, .int (nI (s2))), (2, .int (nI (y)))] := hl
  refine lv_sipush (v := (nI (3001))) hx hb dX6_place_0 (by decide) ?_
  refine lv_iconst (v := (nI (4))) hx hb dX6_place_3 (by decide) ?_
  refine lv_iload_n hx hb dX6_place_4 rfl (lv_at hl 0 rfl) ?_
  refine ln_imul hx hb dX6_place_5 ?_
  refine lv_iload_n hx hb dX6_place_6 rfl (lv_at hl 1 rfl) ?_
  refine ln_iadd hx hb dX6_place_7 ?_
  refine ln_imul hx hb dX6_place_8 ?_
  refine lv_iload_n hx hb dX6_place_9 rfl (lv_at hl 2 rfl) ?_
  refine ln_iadd hx hb dX6_place_10 ?_
  exact ro_iret hx hb hr hlocks (rfl) dX6_place_11
theorem iw_X6_worthOf_X6 : ∀ w ∈ u_ws RX6 TX6 23, w ∈ wsX6_worthOf := by decide +kernel
theorem fl_X6_worthOf_7 : Cond.fieldLink RX6 7 (TX6 2).1 (TX6 2).2.1 (TX6 2).2.2.1 ∈ wsX6_worthOf := by decide +kernel
set_option maxHeartbeats 200000 in
set_option maxRecDepth 100000 in
theorem c_X6_worthOf (l : Launch) {g : GW} {trace : Int64} {value : Nat → Int32} {draft : Nat → Int32} {typed : Int32} {vocables : Int32} {letter : Nat → Int32} {long1 : Nat → Int32} {feet : Nat → Int32} {sort : Nat → Int32} {order : Nat → Int32} {left : Nat → Int64} {opn : Nat → Int64} {own : Nat → Int32} {other : Nat → Int32} {pick : Nat → Int32} {parts : Int32} {frm : Nat → Int32} {size : Nat → Int32} {isYear : Nat → Int32} {isNext : Nat → Int32} {ways : Nat → Int64} {nextWays : Nat → Int64} (counting : Nat) (custom : Nat) (letter9 : Int32) (ahead : Int32) (hc : counting < 3) (hk : custom < 4) : Met l yX6_worthOf wsX6_worthOf ({ frames := 3, cells := 0, slots := 0, locals := 65 }) (va_Pc ([.ref (g.2.2 0), .int (nI (counting)), .int (nI (custom)), .int (letter9), .int (ahead)]) (pW g (wM g trace value draft typed vocables letter long1 feet sort order left opn own other pick parts frm size isYear isNext ways nextWays))) (ro_Q (.int (wv value counting custom letter9 ahead))) 0 0 (fun _ => False) := by
  refine Met.ofW (cc := cX6_worthOf) (maxL := 5) (ret := (some .int)) (by decide) rfl ?_
  intro p e s m args below meth c s₁ B hml hv
  obtain ⟨rfl, hP, hK, hN⟩ := hv
  have hx := B.exec
  have hb := B.bytes
  have hr := B.returns
  have hts := atoms_spec (ws := wsX6_worthOf) B.pre
  have hown : s.vm.findClass RX6 = some m.cls := findClass_of_methodNamed B.named
  have hlocks := B.notSynchronized
  have hl := lv_entry ([.ref (g.2.2 0), .int (nI (counting)), .int (nI (custom)), .int (letter9), .int (ahead)]) (n := 5) (Nat.le_of_ble_eq_true rfl)
  rw [lg_entry_eq]
  generalize (lg_sl ([.ref (g.2.2 0), .int (nI (counting)), .int (nI (custom)), .int (letter9), .int (ahead)]) ++ List.replicate (5 - (lg_sl ([.ref (g.2.2 0), .int (nI (counting)), .int (nI (custom)), .int (letter9), .int (ahead)])).length) Slot.unset).toArray = ls at hl ⊢
  have hl : lv_has ls 5 [(0, .ref (g.2.2 0)), (1, .int (nI (counting))), (2, .int (nI (custom))), (3, .int (letter9)), (4, .int (ahead))] := hl
  refine lv_iload_n hx hb dX6_worthOf_0 rfl (lv_at hl 3 rfl) ?_
  refine ro_call (va_runS (As := [.int (letter9)]) (rest := []) ⟨hx, hb, hml, hown, hts⟩ (c_X6_isLetter l (letter9)) (va_cwS 1 hts gX6_worthOf_X6_isLetter rfl rfl rfl (by decide +kernel) ⟨Nat.le_of_ble_eq_true rfl, Nat.le_of_ble_eq_true rfl⟩) pre_0 rfl rfl hl.1 rfl (lv_room (Nat.le_of_ble_eq_true rfl)) dX6_worthOf_1 ⟨Nat.zero_le _, Nat.zero_le _⟩) ?_
  refine lv_if_eq (tgt := 29) hx hb dX6_worthOf_4 (by decide) (fun c_4 => ?_) (fun c_4 => ?_)
  · have c_4 := if_n c_4
    refine lv_iconst (v := (nI (0))) hx hb dX6_worthOf_29 (by decide) ?_
    exact ro_iret hx hb hr hlocks (wv_0 (by omega)) dX6_worthOf_30
  · have c_4 := if_p c_4
    refine lv_iload_n hx hb dX6_worthOf_7 rfl (lv_at hl 1 rfl) ?_
    refine lv_if_le (tgt := 18) hx hb dX6_worthOf_8 (by decide) (fun c_8 => ?_) (fun c_8 => ?_)
    · have c_8 := (cz_le_n (by omega)).mp c_8
      refine lv_iload_n hx hb dX6_worthOf_18 rfl (lv_at hl 1 rfl) ?_
      refine lv_iconst (v := (nI (1))) hx hb dX6_worthOf_19 (by decide) ?_
      refine lv_icmp_le (tgt := 31) hx hb dX6_worthOf_20 (by decide) (fun c_20 => ?_) (fun c_20 => ?_)
      · have c_20 := (cv_le_nn (by omega) (by omega)).mp c_20
        obtain ⟨j, hj, hje⟩ := iN_of (x := letter9) (b := 123) (by omega) (by omega)
        subst hje
        have hjt : (nI j).toInt = (j : Int) := nI_toInt (by omega)
        refine lv_aload_n hx hb dX6_worthOf_31 rfl (lv_at hl 0 rfl) ?_
        refine an_get (ci := 6) (v := .ref (g.2.2 1)) (C := RX6) (T := TX6) (N := 23) hx hb hts iw_X6_worthOf_X6 hown hK hP 0 rfl rfl 2 (by decide) (hts _ fl_X6_worthOf_7) rfl dX6_worthOf_32 ?_
        refine lv_bipush (v := (nI (26))) hx hb dX6_worthOf_35 (by decide) ?_
        refine lv_iload_n hx hb dX6_worthOf_37 rfl (lv_at hl 2 rfl) ?_
        refine ln_imul hx hb dX6_worthOf_38 ?_
        refine lv_iload_n hx hb dX6_worthOf_39 rfl (lv_at hl 3 rfl) ?_
        refine ro_call (va_runS (As := [.int (nI (j))]) (rest := [.int (nI (26 * custom)), .ref (g.2.2 1)]) ⟨hx, hb, hml, hown, hts⟩ (c_X6_isCapital l (nI (j))) (va_cwS 1 hts gX6_worthOf_X6_isCapital rfl rfl rfl (by decide +kernel) ⟨Nat.le_of_ble_eq_true rfl, Nat.le_of_ble_eq_true rfl⟩) pre_0 rfl rfl hl.1 rfl (lv_room (Nat.le_of_ble_eq_true rfl)) dX6_worthOf_40 ⟨Nat.zero_le _, Nat.zero_le _⟩) ?_
        refine lv_if_eq (tgt := 53) hx hb dX6_worthOf_43 (by decide) (fun c_43 => ?_) (fun c_43 => ?_)
        · have c_43 := if_n c_43
          refine lv_iload_n hx hb dX6_worthOf_53 rfl (lv_at hl 3 rfl) ?_
          refine lv_bipush (v := (nI (97))) hx hb dX6_worthOf_54 (by decide) ?_
          refine ln_isub hx hb (by omega) dX6_worthOf_56 ?_
          refine ln_iadd hx hb dX6_worthOf_57 ?_
          refine an_iald (f := value) hx hb hK hP 1 0 rfl rfl (by decide) (by omega) dX6_worthOf_58 ?_
          exact ro_iret hx hb hr hlocks (wv_l2 hj (by omega) (by omega) (by omega)) dX6_worthOf_59
        · have c_43 := if_p c_43
          refine lv_iload_n hx hb dX6_worthOf_46 rfl (lv_at hl 3 rfl) ?_
          refine lv_bipush (v := (nI (65))) hx hb dX6_worthOf_47 (by decide) ?_
          refine ln_isub hx hb (by omega) dX6_worthOf_49 ?_
          refine lv_goto (tgt := 57) hx hb dX6_worthOf_50 (by decide) ?_
          refine ln_iadd hx hb dX6_worthOf_57 ?_
          refine an_iald (f := value) hx hb hK hP 1 0 rfl rfl (by decide) (by omega) dX6_worthOf_58 ?_
          exact ro_iret hx hb hr hlocks (wv_c2 hj (by omega) (by omega)) dX6_worthOf_59
      · have c_20 := (not_congr (cv_le_nn (by omega) (by omega))).mp c_20
        refine lv_iload hx hb dX6_worthOf_23 (lv_at hl 4 rfl) ?_
        refine lv_iload_n hx hb dX6_worthOf_25 rfl (lv_at hl 3 rfl) ?_
        refine lv_icmp_ne (tgt := 31) hx hb dX6_worthOf_26 (by decide) (fun c_26 => ?_) (fun c_26 => ?_)
        · have c_26 := (not_congr (cv_eq_ii )).mp c_26
          obtain ⟨j, hj, hje⟩ := iN_of (x := letter9) (b := 123) (by omega) (by omega)
          subst hje
          have hjt : (nI j).toInt = (j : Int) := nI_toInt (by omega)
          refine lv_aload_n hx hb dX6_worthOf_31 rfl (lv_at hl 0 rfl) ?_
          refine an_get (ci := 6) (v := .ref (g.2.2 1)) (C := RX6) (T := TX6) (N := 23) hx hb hts iw_X6_worthOf_X6 hown hK hP 0 rfl rfl 2 (by decide) (hts _ fl_X6_worthOf_7) rfl dX6_worthOf_32 ?_
          refine lv_bipush (v := (nI (26))) hx hb dX6_worthOf_35 (by decide) ?_
          refine lv_iload_n hx hb dX6_worthOf_37 rfl (lv_at hl 2 rfl) ?_
          refine ln_imul hx hb dX6_worthOf_38 ?_
          refine lv_iload_n hx hb dX6_worthOf_39 rfl (lv_at hl 3 rfl) ?_
          refine ro_call (va_runS (As := [.int (nI (j))]) (rest := [.int (nI (26 * custom)), .ref (g.2.2 1)]) ⟨hx, hb, hml, hown, hts⟩ (c_X6_isCapital l (nI (j))) (va_cwS 1 hts gX6_worthOf_X6_isCapital rfl rfl rfl (by decide +kernel) ⟨Nat.le_of_ble_eq_true rfl, Nat.le_of_ble_eq_true rfl⟩) pre_0 rfl rfl hl.1 rfl (lv_room (Nat.le_of_ble_eq_true rfl)) dX6_worthOf_40 ⟨Nat.zero_le _, Nat.zero_le _⟩) ?_
          refine lv_if_eq (tgt := 53) hx hb dX6_worthOf_43 (by decide) (fun c_43 => ?_) (fun c_43 => ?_)
          · have c_43 := if_n c_43
            refine lv_iload_n hx hb dX6_worthOf_53 rfl (lv_at hl 3 rfl) ?_
            refine lv_bipush (v := (nI (97))) hx hb dX6_worthOf_54 (by decide) ?_
            refine ln_isub hx hb (by omega) dX6_worthOf_56 ?_
            refine ln_iadd hx hb dX6_worthOf_57 ?_
            refine an_iald (f := value) hx hb hK hP 1 0 rfl rfl (by decide) (by omega) dX6_worthOf_58 ?_
            exact ro_iret hx hb hr hlocks (wv_l2 hj (by omega) (by omega) (by omega)) dX6_worthOf_59
          · have c_43 := if_p c_43
            refine lv_iload_n hx hb dX6_worthOf_46 rfl (lv_at hl 3 rfl) ?_
            refine lv_bipush (v := (nI (65))) hx hb dX6_worthOf_47 (by decide) ?_
            refine ln_isub hx hb (by omega) dX6_worthOf_49 ?_
            refine lv_goto (tgt := 57) hx hb dX6_worthOf_50 (by decide) ?_
            refine ln_iadd hx hb dX6_worthOf_57 ?_
            refine an_iald (f := value) hx hb hK hP 1 0 rfl rfl (by decide) (by omega) dX6_worthOf_58 ?_
            exact ro_iret hx hb hr hlocks (wv_c2 hj (by omega) (by omega)) dX6_worthOf_59
        · have c_26 := (cv_eq_ii ).mp c_26
          refine lv_iconst (v := (nI (0))) hx hb dX6_worthOf_29 (by decide) ?_
          exact ro_iret hx hb hr hlocks (wv_0 (by omega)) dX6_worthOf_30
    · have c_8 := (not_congr (cz_le_n (by omega))).mp c_8
      refine lv_iload_n hx hb dX6_worthOf_11 rfl (lv_at hl 3 rfl) ?_
      refine ro_call (va_runS (As := [.int (letter9)]) (rest := []) ⟨hx, hb, hml, hown, hts⟩ (c_X6_isCapital l (letter9)) (va_cwS 1 hts gX6_worthOf_X6_isCapital rfl rfl rfl (by decide +kernel) ⟨Nat.le_of_ble_eq_true rfl, Nat.le_of_ble_eq_true rfl⟩) pre_0 rfl rfl hl.1 rfl (lv_room (Nat.le_of_ble_eq_true rfl)) dX6_worthOf_12 ⟨Nat.zero_le _, Nat.zero_le _⟩) ?_
      refine lv_if_eq (tgt := 29) hx hb dX6_worthOf_15 (by decide) (fun c_15 => ?_) (fun c_15 => ?_)
      · have c_15 := if_n c_15
        refine lv_iconst (v := (nI (0))) hx hb dX6_worthOf_29 (by decide) ?_
        exact ro_iret hx hb hr hlocks (wv_0 (by omega)) dX6_worthOf_30
      · have c_15 := if_p c_15
        refine lv_iload_n hx hb dX6_worthOf_18 rfl (lv_at hl 1 rfl) ?_
        refine lv_iconst (v := (nI (1))) hx hb dX6_worthOf_19 (by decide) ?_
        refine lv_icmp_le (tgt := 31) hx hb dX6_worthOf_20 (by decide) (fun c_20 => ?_) (fun c_20 => ?_)
        · have c_20 := (cv_le_nn (by omega) (by omega)).mp c_20
          obtain ⟨j, hj, hje⟩ := iN_of (x := letter9) (b := 123) (by omega) (by omega)
          subst hje
          have hjt : (nI j).toInt = (j : Int) := nI_toInt (by omega)
          refine lv_aload_n hx hb dX6_worthOf_31 rfl (lv_at hl 0 rfl) ?_
          refine an_get (ci := 6) (v := .ref (g.2.2 1)) (C := RX6) (T := TX6) (N := 23) hx hb hts iw_X6_worthOf_X6 hown hK hP 0 rfl rfl 2 (by decide) (hts _ fl_X6_worthOf_7) rfl dX6_worthOf_32 ?_
          refine lv_bipush (v := (nI (26))) hx hb dX6_worthOf_35 (by decide) ?_
          refine lv_iload_n hx hb dX6_worthOf_37 rfl (lv_at hl 2 rfl) ?_
          refine ln_imul hx hb dX6_worthOf_38 ?_
          refine lv_iload_n hx hb dX6_worthOf_39 rfl (lv_at hl 3 rfl) ?_
          refine ro_call (va_runS (As := [.int (nI (j))]) (rest := [.int (nI (26 * custom)), .ref (g.2.2 1)]) ⟨hx, hb, hml, hown, hts⟩ (c_X6_isCapital l (nI (j))) (va_cwS 1 hts gX6_worthOf_X6_isCapital rfl rfl rfl (by decide +kernel) ⟨Nat.le_of_ble_eq_true rfl, Nat.le_of_ble_eq_true rfl⟩) pre_0 rfl rfl hl.1 rfl (lv_room (Nat.le_of_ble_eq_true rfl)) dX6_worthOf_40 ⟨Nat.zero_le _, Nat.zero_le _⟩) ?_
          refine lv_if_eq (tgt := 53) hx hb dX6_worthOf_43 (by decide) (fun c_43 => ?_) (fun c_43 => ?_)
          · have c_43 := if_n c_43
            refine lv_iload_n hx hb dX6_worthOf_53 rfl (lv_at hl 3 rfl) ?_
            refine lv_bipush (v := (nI (97))) hx hb dX6_worthOf_54 (by decide) ?_
            refine ln_isub hx hb (by omega) dX6_worthOf_56 ?_
            refine ln_iadd hx hb dX6_worthOf_57 ?_
            refine an_iald (f := value) hx hb hK hP 1 0 rfl rfl (by decide) (by omega) dX6_worthOf_58 ?_
            exact ro_iret hx hb hr hlocks (wv_l2 hj (by omega) (by omega) (by omega)) dX6_worthOf_59
          · have c_43 := if_p c_43
            refine lv_iload_n hx hb dX6_worthOf_46 rfl (lv_at hl 3 rfl) ?_
            refine lv_bipush (v := (nI (65))) hx hb dX6_worthOf_47 (by decide) ?_
            refine ln_isub hx hb (by omega) dX6_worthOf_49 ?_
            refine lv_goto (tgt := 57) hx hb dX6_worthOf_50 (by decide) ?_
            refine ln_iadd hx hb dX6_worthOf_57 ?_
            refine an_iald (f := value) hx hb hK hP 1 0 rfl rfl (by decide) (by omega) dX6_worthOf_58 ?_
            exact ro_iret hx hb hr hlocks (wv_c2 hj (by omega) (by omega)) dX6_worthOf_59
        · have c_20 := (not_congr (cv_le_nn (by omega) (by omega))).mp c_20
          refine lv_iload hx hb dX6_worthOf_23 (lv_at hl 4 rfl) ?_
          refine lv_iload_n hx hb dX6_worthOf_25 rfl (lv_at hl 3 rfl) ?_
          refine lv_icmp_ne (tgt := 31) hx hb dX6_worthOf_26 (by decide) (fun c_26 => ?_) (fun c_26 => ?_)
          · have c_26 := (not_congr (cv_eq_ii )).mp c_26
            obtain ⟨j, hj, hje⟩ := iN_of (x := letter9) (b := 123) (by omega) (by omega)
            subst hje
            have hjt : (nI j).toInt = (j : Int) := nI_toInt (by omega)
            refine lv_aload_n hx hb dX6_worthOf_31 rfl (lv_at hl 0 rfl) ?_
            refine an_get (ci := 6) (v := .ref (g.2.2 1)) (C := RX6) (T := TX6) (N := 23) hx hb hts iw_X6_worthOf_X6 hown hK hP 0 rfl rfl 2 (by decide) (hts _ fl_X6_worthOf_7) rfl dX6_worthOf_32 ?_
            refine lv_bipush (v := (nI (26))) hx hb dX6_worthOf_35 (by decide) ?_
            refine lv_iload_n hx hb dX6_worthOf_37 rfl (lv_at hl 2 rfl) ?_
            refine ln_imul hx hb dX6_worthOf_38 ?_
            refine lv_iload_n hx hb dX6_worthOf_39 rfl (lv_at hl 3 rfl) ?_
            refine ro_call (va_runS (As := [.int (nI (j))]) (rest := [.int (nI (26 * custom)), .ref (g.2.2 1)]) ⟨hx, hb, hml, hown, hts⟩ (c_X6_isCapital l (nI (j))) (va_cwS 1 hts gX6_worthOf_X6_isCapital rfl rfl rfl (by decide +kernel) ⟨Nat.le_of_ble_eq_true rfl, Nat.le_of_ble_eq_true rfl⟩) pre_0 rfl rfl hl.1 rfl (lv_room (Nat.le_of_ble_eq_true rfl)) dX6_worthOf_40 ⟨Nat.zero_le _, Nat.zero_le _⟩) ?_
            refine lv_if_eq (tgt := 53) hx hb dX6_worthOf_43 (by decide) (fun c_43 => ?_) (fun c_43 => ?_)
            · have c_43 := if_n c_43
              refine lv_iload_n hx hb dX6_worthOf_53 rfl (lv_at hl 3 rfl) ?_
              refine lv_bipush (v := (nI (97))) hx hb dX6_worthOf_54 (by decide) ?_
              refine ln_isub hx hb (by omega) dX6_worthOf_56 ?_
              refine ln_iadd hx hb dX6_worthOf_57 ?_
              refine an_iald (f := value) hx hb hK hP 1 0 rfl rfl (by decide) (by omega) dX6_worthOf_58 ?_
              exact ro_iret hx hb hr hlocks (wv_l2 hj (by omega) (by omega) (by omega)) dX6_worthOf_59
            · have c_43 := if_p c_43
              refine lv_iload_n hx hb dX6_worthOf_46 rfl (lv_at hl 3 rfl) ?_
              refine lv_bipush (v := (nI (65))) hx hb dX6_worthOf_47 (by decide) ?_
              refine ln_isub hx hb (by omega) dX6_worthOf_49 ?_
              refine lv_goto (tgt := 57) hx hb dX6_worthOf_50 (by decide) ?_
              refine ln_iadd hx hb dX6_worthOf_57 ?_
              refine an_iald (f := value) hx hb hK hP 1 0 rfl rfl (by decide) (by omega) dX6_worthOf_58 ?_
              exact ro_iret hx hb hr hlocks (wv_c2 hj (by omega) (by omega)) dX6_worthOf_59
          · have c_26 := (cv_eq_ii ).mp c_26
            refine lv_iconst (v := (nI (0))) hx hb dX6_worthOf_29 (by decide) ?_
            exact ro_iret hx hb hr hlocks (wv_0 (by omega)) dX6_worthOf_30
theorem iw_X6_sumOf_X6 : ∀ w ∈ u_ws RX6 TX6 23, w ∈ wsX6_sumOf := by decide +kernel
theorem fl_X6_sumOf_13 : Cond.fieldLink RX6 13 (TX6 3).1 (TX6 3).2.1 (TX6 3).2.2.1 ∈ wsX6_sumOf := by decide +kernel
theorem fl_X6_sumOf_117 : Cond.fieldLink RX6 117 (TX6 4).1 (TX6 4).2.1 (TX6 4).2.2.1 ∈ wsX6_sumOf := by decide +kernel
set_option maxHeartbeats 200000 in
set_option maxRecDepth 100000 in
theorem c_X6_sumOf (l : Launch) {g : GW} {trace : Int64} {value : Nat → Int32} {draft : Nat → Int32} {L : Nat} {vocables : Int32} {letter : Nat → Int32} {long1 : Nat → Int32} {feet : Nat → Int32} {sort : Nat → Int32} {order : Nat → Int32} {left : Nat → Int64} {opn : Nat → Int64} {own : Nat → Int32} {other : Nat → Int32} {pick : Nat → Int32} {parts : Int32} {frm : Nat → Int32} {size : Nat → Int32} {isYear : Nat → Int32} {isNext : Nat → Int32} {ways : Nat → Int64} {nextWays : Nat → Int64} (counting : Nat) (custom : Nat) (hc : counting < 3) (hk : custom < 4) (hL2 : L ≤ 40) : Met l yX6_sumOf wsX6_sumOf ({ frames := 4, cells := 0, slots := 0, locals := 89 }) (va_Pc ([.ref (g.2.2 0), .int (nI (counting)), .int (nI (custom))]) (pW g (wM g trace value draft (nI (L)) vocables letter long1 feet sort order left opn own other pick parts frm size isYear isNext ways nextWays))) (ro_Q (.int (smv value counting custom draft 0 L))) 0 0 (fun _ => False) := by
  refine Met.ofW (cc := cX6_sumOf) (maxL := 5) (ret := (some .int)) (by decide) rfl ?_
  intro p e s m args below meth c s₁ B hml hv
  obtain ⟨rfl, hP, hK, hN⟩ := hv
  have hx := B.exec
  have hb := B.bytes
  have hr := B.returns
  have hts := atoms_spec (ws := wsX6_sumOf) B.pre
  have hown : s.vm.findClass RX6 = some m.cls := findClass_of_methodNamed B.named
  have hlocks := B.notSynchronized
  have hl := lv_entry ([.ref (g.2.2 0), .int (nI (counting)), .int (nI (custom))]) (n := 5) (Nat.le_of_ble_eq_true rfl)
  rw [lg_entry_eq]
  generalize (lg_sl ([.ref (g.2.2 0), .int (nI (counting)), .int (nI (custom))]) ++ List.replicate (5 - (lg_sl ([.ref (g.2.2 0), .int (nI (counting)), .int (nI (custom))])).length) Slot.unset).toArray = ls at hl ⊢
  have hl : lv_has ls 5 [(0, .ref (g.2.2 0)), (1, .int (nI (counting))), (2, .int (nI (custom)))] := hl
  refine lv_iconst (v := (nI (0))) hx hb dX6_sumOf_0 (by decide) ?_
  refine lv_istore_n (lv' := [(3, .int (nI (0))), (0, .ref (g.2.2 0)), (1, .int (nI (counting))), (2, .int (nI (custom)))]) hx hb dX6_sumOf_1 rfl hl (by decide) rfl (fun ls hl => ?_)
  refine lv_iconst (v := (nI (0))) hx hb dX6_sumOf_2 (by decide) ?_
  refine lv_istore (lv' := [(4, .int (nI (0))), (3, .int (nI (0))), (0, .ref (g.2.2 0)), (1, .int (nI (counting))), (2, .int (nI (custom)))]) hx hb dX6_sumOf_3 hl (by decide) rfl (fun ls hl => ?_)
  have lp_5 : ∀ (n : Nat) (i : Nat), (i ≤ L) → L - i < n → ∀ (ls : Array Slot), lv_has ls 5 [(0, .ref (g.2.2 0)), (1, .int (nI (counting))), (2, .int (nI (custom))), (3, .int (smv value counting custom draft 0 i)), (4, .int (nI (i)))] → W p l e (headSpec wsX6_sumOf ({ frames := 4, cells := 0, slots := 0, locals := 89 })).room s m (([.ref (g.2.2 0), .int (nI (counting)), .int (nI (custom))] : List Value).toArray) below meth c s.heap [] 0 0 (MQ below (ro_Q (.int (smv value counting custom draft 0 L))) (([.ref (g.2.2 0), .int (nI (counting)), .int (nI (custom))] : List Value).toArray) s 0 0 (fun _ => False)) (F0 m 5 ls []) := by
    intro n
    induction n with
    | zero => intro i hi hm; exact absurd hm (Nat.not_lt_zero _)
    | succ n ih_5 =>
      intro i hi hm_5 ls hl
      refine lv_iload hx hb dX6_sumOf_5 (lv_at hl 4 rfl) ?_
      refine lv_aload_n hx hb dX6_sumOf_7 rfl (lv_at hl 0 rfl) ?_
      refine an_get (ci := 6) (v := .int (nI (L))) (C := RX6) (T := TX6) (N := 23) hx hb hts iw_X6_sumOf_X6 hown hK hP 0 rfl rfl 4 (by decide) (hts _ fl_X6_sumOf_117) rfl dX6_sumOf_8 ?_
      refine lv_icmp_ge (tgt := 55) hx hb dX6_sumOf_11 (by decide) (fun c_11 => ?_) (fun c_11 => ?_)
      · have c_11 := (cv_le_nn (by omega) (by omega)).mp c_11
        refine lv_iload_n hx hb dX6_sumOf_55 rfl (lv_at hl 3 rfl) ?_
        exact ro_iret hx hb hr hlocks (by rw [show L = i by omega]) dX6_sumOf_56
      · have c_11 := (not_congr (cv_le_nn (by omega) (by omega))).mp c_11
        refine lv_iload_n hx hb dX6_sumOf_14 rfl (lv_at hl 3 rfl) ?_
        refine lv_aload_n hx hb dX6_sumOf_15 rfl (lv_at hl 0 rfl) ?_
        refine lv_iload_n hx hb dX6_sumOf_16 rfl (lv_at hl 1 rfl) ?_
        refine lv_iload_n hx hb dX6_sumOf_17 rfl (lv_at hl 2 rfl) ?_
        refine lv_aload_n hx hb dX6_sumOf_18 rfl (lv_at hl 0 rfl) ?_
        refine an_get (ci := 6) (v := .ref (g.2.2 2)) (C := RX6) (T := TX6) (N := 23) hx hb hts iw_X6_sumOf_X6 hown hK hP 0 rfl rfl 3 (by decide) (hts _ fl_X6_sumOf_13) rfl dX6_sumOf_19 ?_
        refine lv_iload hx hb dX6_sumOf_22 (lv_at hl 4 rfl) ?_
        refine an_iald (f := draft) hx hb hK hP 2 0 rfl rfl (by decide) (by omega) dX6_sumOf_24 ?_
        refine ln_toi (y := (draft (0 + i))) (by rw [Nat.zero_add]) ?_
        refine lv_iload hx hb dX6_sumOf_25 (lv_at hl 4 rfl) ?_
        refine lv_if_ne (tgt := 35) hx hb dX6_sumOf_27 (by decide) (fun c_27 => ?_) (fun c_27 => ?_)
        · have c_27 := (not_congr (cz_eq_n (by omega))).mp c_27
          refine lv_aload_n hx hb dX6_sumOf_35 rfl (lv_at hl 0 rfl) ?_
          refine an_get (ci := 6) (v := .ref (g.2.2 2)) (C := RX6) (T := TX6) (N := 23) hx hb hts iw_X6_sumOf_X6 hown hK hP 0 rfl rfl 3 (by decide) (hts _ fl_X6_sumOf_13) rfl dX6_sumOf_36 ?_
          refine lv_iload hx hb dX6_sumOf_39 (lv_at hl 4 rfl) ?_
          refine lv_iconst (v := (nI (1))) hx hb dX6_sumOf_41 (by decide) ?_
          refine ln_isub hx hb (by omega) dX6_sumOf_42 ?_
          refine an_iald (f := draft) hx hb hK hP 2 0 rfl rfl (by decide) (by omega) dX6_sumOf_43 ?_
          refine ln_toi (y := (ahd draft 0 i)) (ahd_p c_27) ?_
          refine ro_call (va_runV (As := [.int (nI (counting)), .int (nI (custom)), .int (draft (0 + i)), .int (ahd draft 0 i)]) (rest := [.int (smv value counting custom draft 0 i)]) ⟨hx, hb, hml, hown, hts⟩ (c_X6_worthOf l (g := g) (trace := trace) (value := value) (draft := draft) (typed := nI (L)) (vocables := vocables) (letter := letter) (long1 := long1) (feet := feet) (sort := sort) (order := order) (left := left) (opn := opn) (own := own) (other := other) (pick := pick) (parts := parts) (frm := frm) (size := size) (isYear := isYear) (isNext := isNext) (ways := ways) (nextWays := nextWays) (counting) (custom) (draft (0 + i)) (ahd draft 0 i) hc hk) (cwV 4 hts gX6_sumOf_X6_worthOf rfl rfl rfl (by decide +kernel) ⟨Nat.le_of_ble_eq_true rfl, Nat.le_of_ble_eq_true rfl⟩) (pre_V pW_bl (va_recv hK hP (ci := 6) (q0 := 0) rfl rfl) (fun U hU hW => pW_of hP hK hN hU hW)) rfl rfl hl.1 rfl (lv_room (Nat.le_of_ble_eq_true rfl)) dX6_sumOf_44 ⟨Nat.zero_le _, Nat.zero_le _⟩) ?_
          refine lv_iadd hx hb dX6_sumOf_47 ?_
          refine lv_istore_n (lv' := [(3, .int ((smv value counting custom draft 0 i) + (wv value (counting) (custom) (draft (0 + i)) (ahd draft 0 i)))), (0, .ref (g.2.2 0)), (1, .int (nI (counting))), (2, .int (nI (custom))), (4, .int (nI (i)))]) hx hb dX6_sumOf_48 rfl hl (by decide) rfl (fun ls hl => ?_)
          refine lv_iinc (v := (nI (i + 1))) (lv' := [(4, .int (nI (i + 1))), (3, .int ((smv value counting custom draft 0 i) + (wv value (counting) (custom) (draft (0 + i)) (ahd draft 0 i)))), (0, .ref (g.2.2 0)), (1, .int (nI (counting))), (2, .int (nI (custom)))]) hx hb dX6_sumOf_49 hl (k := 4) rfl (nI_add _ 1) (by decide) rfl (fun ls hl => ?_)
          refine lv_goto (tgt := 5) hx hb dX6_sumOf_52 (by decide) ?_
          exact ih_5 (i + 1) (by omega) (by omega) ls (lv_sub hl [2, 3, 4, 1, 0] rfl)
        · have c_27 := (cz_eq_n (by omega)).mp c_27
          refine lv_bipush (v := (nI (32))) hx hb dX6_sumOf_30 (by decide) ?_
          refine ln_toi (y := (ahd draft 0 i)) (ahd_z c_27) ?_
          refine lv_goto (tgt := 44) hx hb dX6_sumOf_32 (by decide) ?_
          refine ro_call (va_runV (As := [.int (nI (counting)), .int (nI (custom)), .int (draft (0 + i)), .int (ahd draft 0 i)]) (rest := [.int (smv value counting custom draft 0 i)]) ⟨hx, hb, hml, hown, hts⟩ (c_X6_worthOf l (g := g) (trace := trace) (value := value) (draft := draft) (typed := nI (L)) (vocables := vocables) (letter := letter) (long1 := long1) (feet := feet) (sort := sort) (order := order) (left := left) (opn := opn) (own := own) (other := other) (pick := pick) (parts := parts) (frm := frm) (size := size) (isYear := isYear) (isNext := isNext) (ways := ways) (nextWays := nextWays) (counting) (custom) (draft (0 + i)) (ahd draft 0 i) hc hk) (cwV 4 hts gX6_sumOf_X6_worthOf rfl rfl rfl (by decide +kernel) ⟨Nat.le_of_ble_eq_true rfl, Nat.le_of_ble_eq_true rfl⟩) (pre_V pW_bl (va_recv hK hP (ci := 6) (q0 := 0) rfl rfl) (fun U hU hW => pW_of hP hK hN hU hW)) rfl rfl hl.1 rfl (lv_room (Nat.le_of_ble_eq_true rfl)) dX6_sumOf_44 ⟨Nat.zero_le _, Nat.zero_le _⟩) ?_
          refine lv_iadd hx hb dX6_sumOf_47 ?_
          refine lv_istore_n (lv' := [(3, .int ((smv value counting custom draft 0 i) + (wv value (counting) (custom) (draft (0 + i)) (ahd draft 0 i)))), (0, .ref (g.2.2 0)), (1, .int (nI (counting))), (2, .int (nI (custom))), (4, .int (nI (i)))]) hx hb dX6_sumOf_48 rfl hl (by decide) rfl (fun ls hl => ?_)
          refine lv_iinc (v := (nI (i + 1))) (lv' := [(4, .int (nI (i + 1))), (3, .int ((smv value counting custom draft 0 i) + (wv value (counting) (custom) (draft (0 + i)) (ahd draft 0 i)))), (0, .ref (g.2.2 0)), (1, .int (nI (counting))), (2, .int (nI (custom)))]) hx hb dX6_sumOf_49 hl (k := 4) rfl (nI_add _ 1) (by decide) rfl (fun ls hl => ?_)
          refine lv_goto (tgt := 5) hx hb dX6_sumOf_52 (by decide) ?_
          exact ih_5 (i + 1) (by omega) (by omega) ls (lv_sub hl [2, 3, 4, 1, 0] rfl)
  exact lp_5 (L - (0) + 1) 0 (Nat.zero_le _) (Nat.lt_succ_self _) ls (lv_sub hl [2, 3, 4, 1, 0] rfl)
theorem iw_X6_isAfter_X6 : ∀ w ∈ u_ws RX6 TX6 23, w ∈ wsX6_isAfter := by decide +kernel
theorem fl_X6_isAfter_25 : Cond.fieldLink RX6 25 (TX6 9).1 (TX6 9).2.1 (TX6 9).2.2.1 ∈ wsX6_isAfter := by decide +kernel
theorem fl_X6_isAfter_28 : Cond.fieldLink RX6 28 (TX6 10).1 (TX6 10).2.1 (TX6 10).2.2.1 ∈ wsX6_isAfter := by decide +kernel
set_option maxHeartbeats 200000 in
set_option maxRecDepth 100000 in
theorem c_X6_isAfter (l : Launch) {g : GW} {trace : Int64} {value : Nat → Int32} {draft : Nat → Int32} {typed : Int32} {vocables : Int32} {letter : Nat → Int32} {long1 : Nat → Int32} {feet : Nat → Int32} {sort : Nat → Int32} {order : Nat → Int32} {left : Nat → Int64} {opn : Nat → Int64} {own : Nat → Int32} {other : Nat → Int32} {pick : Nat → Int32} {parts : Int32} {frm : Nat → Int32} {size : Nat → Int32} {isYear : Nat → Int32} {isNext : Nat → Int32} {ways : Nat → Int64} {nextWays : Nat → Int64} (ahead : Nat) (v : Nat) (hc : ahead < 4) (hk : v < 10) : Met l yX6_isAfter wsX6_isAfter ({ frames := 0, cells := 0, slots := 0, locals := 0 }) (va_Pc ([.ref (g.2.2 0), .int (nI (ahead)), .int (nI (v))]) (pW g (wM g trace value draft typed vocables letter long1 feet sort order left opn own other pick parts frm size isYear isNext ways nextWays))) (ro_Q (.int (if mcy order sort ahead v then 1 else 0))) 0 0 (fun _ => False) := by
  refine Met.ofW (cc := cX6_isAfter) (maxL := 3) (ret := (some .boolean)) (by decide) rfl ?_
  intro p e s m args below meth c s₁ B hml hv
  obtain ⟨rfl, hP, hK, hN⟩ := hv
  have hx := B.exec
  have hb := B.bytes
  have hr := B.returns
  have hts := atoms_spec (ws := wsX6_isAfter) B.pre
  have hown : s.vm.findClass RX6 = some m.cls := findClass_of_methodNamed B.named
  have hlocks := B.notSynchronized
  have hl := lv_entry ([.ref (g.2.2 0), .int (nI (ahead)), .int (nI (v))]) (n := 3) (Nat.le_of_ble_eq_true rfl)
  rw [lg_entry_eq]
  generalize (lg_sl ([.ref (g.2.2 0), .int (nI (ahead)), .int (nI (v))]) ++ List.replicate (3 - (lg_sl ([.ref (g.2.2 0), .int (nI (ahead)), .int (nI (v))])).length) Slot.unset).toArray = ls at hl ⊢
  have hl : lv_has ls 3 [(0, .ref (g.2.2 0)), (1, .int (nI (ahead))), (2, .int (nI (v)))] := hl
  refine lv_aload_n hx hb dX6_isAfter_0 rfl (lv_at hl 0 rfl) ?_
  refine an_get (ci := 6) (v := .ref (g.2.2 7)) (C := RX6) (T := TX6) (N := 23) hx hb hts iw_X6_isAfter_X6 hown hK hP 0 rfl rfl 10 (by decide) (hts _ fl_X6_isAfter_28) rfl dX6_isAfter_1 ?_
  refine lv_iload_n hx hb dX6_isAfter_4 rfl (lv_at hl 1 rfl) ?_
  refine an_iald (f := order) hx hb hK hP 7 0 rfl rfl (by decide) (by omega) dX6_isAfter_5 ?_
  refine lv_aload_n hx hb dX6_isAfter_6 rfl (lv_at hl 0 rfl) ?_
  refine an_get (ci := 6) (v := .ref (g.2.2 6)) (C := RX6) (T := TX6) (N := 23) hx hb hts iw_X6_isAfter_X6 hown hK hP 0 rfl rfl 9 (by decide) (hts _ fl_X6_isAfter_25) rfl dX6_isAfter_7 ?_
  refine lv_iload_n hx hb dX6_isAfter_10 rfl (lv_at hl 2 rfl) ?_
  refine an_iald (f := sort) hx hb hK hP 6 0 rfl rfl (by decide) (by omega) dX6_isAfter_11 ?_
  refine lv_ishr hx hb dX6_isAfter_12 ?_
  refine lv_iconst (v := (nI (1))) hx hb dX6_isAfter_13 (by decide) ?_
  refine lv_iand hx hb dX6_isAfter_14 ?_
  refine lv_iconst (v := (nI (1))) hx hb dX6_isAfter_15 (by decide) ?_
  refine lv_icmp_ne (tgt := 23) hx hb dX6_isAfter_16 (by decide) (fun c_16 => ?_) (fun c_16 => ?_)
  · refine lv_iconst (v := (nI (0))) hx hb dX6_isAfter_23 (by decide) ?_
    exact ro_zret hx hb hr hlocks (rfl) (zero_if (by first | omega | assumption)) dX6_isAfter_24
  · refine lv_iconst (v := (nI (1))) hx hb dX6_isAfter_19 (by decide) ?_
    refine lv_goto (tgt := 24) hx hb dX6_isAfter_20 (by decide) ?_
    exact ro_zret hx hb hr hlocks (rfl) (one_if (by first | omega | assumption)) dX6_isAfter_24
theorem iw_X6_trace_X6 : ∀ w ∈ u_ws RX6 TX6 23, w ∈ wsX6_trace := by decide +kernel
theorem fl_X6_trace_67 : Cond.fieldLink RX6 67 (TX6 0).1 (TX6 0).2.1 (TX6 0).2.2.1 ∈ wsX6_trace := by decide +kernel
theorem fl_X6_trace_103 : Cond.fieldLink RX6 103 (TX6 1).1 (TX6 1).2.1 (TX6 1).2.2.1 ∈ wsX6_trace := by decide +kernel
set_option maxHeartbeats 200000 in
set_option maxRecDepth 100000 in
theorem c_X6_trace (l : Launch) {g : GW} {trace : Int64} {value : Nat → Int32} {draft : Nat → Int32} {typed : Int32} {vocables : Int32} {letter : Nat → Int32} {long1 : Nat → Int32} {feet : Nat → Int32} {sort : Nat → Int32} {order : Nat → Int32} {left : Nat → Int64} {opn : Nat → Int64} {own : Nat → Int32} {other : Nat → Int32} {pick : Nat → Int32} {parts : Int32} {frm : Nat → Int32} {size : Nat → Int32} {isYear : Nat → Int32} {isNext : Nat → Int32} {ways : Nat → Int64} {nextWays : Nat → Int64} {sz : Nat}  (hd : dW 19 g.2.2) : Met l yX6_trace wsX6_trace ({ frames := 0, cells := 0, slots := 0, locals := 0 }) (va_Pc ([.ref (g.2.2 0)]) (qW g (wM g trace value draft typed vocables letter long1 feet sort order left opn own other pick parts frm size isYear isNext ways nextWays) sz)) (va_Ql (fun (r : Int64) (z : Unit) => r = trace) (fun (z : Unit) (t : State) => va_P g.1 vwCl (wM g trace value draft typed vocables letter long1 feet sort order left opn own other pick parts frm size isYear isNext ways nextWays) t.heap) (aW 19 g.2.2 sz)) 0 0 (aW 19 g.2.2 sz) := by
  refine Met.ofW (cc := cX6_trace) (maxL := 1) (ret := (some .long)) (by decide) rfl ?_
  intro p e s m args below meth c s₁ B hml hv
  obtain ⟨rfl, hsz9, hP, hK, hN⟩ := hv
  subst hsz9
  have hx := B.exec
  have hb := B.bytes
  have hr := B.returns
  have hts := atoms_spec (ws := wsX6_trace) B.pre
  have hown : s.vm.findClass RX6 = some m.cls := findClass_of_methodNamed B.named
  have hlocks := B.notSynchronized
  have hS : va_S (aW 19 g.2.2 s.heap.size) s.heap s.heap [] := va_S.rf
  have hl := lv_entry ([.ref (g.2.2 0)]) (n := 1) (Nat.le_of_ble_eq_true rfl)
  rw [lg_entry_eq]
  generalize (lg_sl ([.ref (g.2.2 0)]) ++ List.replicate (1 - (lg_sl ([.ref (g.2.2 0)])).length) Slot.unset).toArray = ls at hl ⊢
  have hl : lv_has ls 1 [(0, .ref (g.2.2 0))] := hl
  refine lv_aload_n hx hb dX6_trace_0 rfl (lv_at hl 0 rfl) ?_
  refine lv_iconst (v := (nI (0))) hx hb dX6_trace_1 (by decide) ?_
  refine an_put (ci := 6) (v := .int (nI (0))) (ty := .int) (C := RX6) (T := TX6) (N := 23) (ws' := (wM g trace value draft typed vocables letter long1 feet sort order left opn own other pick parts frm size isYear isNext ways nextWays)) hx hb hts iw_X6_trace_X6 tyX6 tyX6_ok nmX6 hown hK hP (wM_D hd) hS 0 rfl rfl 0 (by decide) (hts _ fl_X6_trace_67) rfl (by decide +kernel) (rfl) (rfl) (Nat.le_of_ble_eq_true rfl) rfl dX6_trace_2 (fun H locs hP hS => ?_)
  refine lv_aload_n hx hb dX6_trace_5 rfl (lv_at hl 0 rfl) ?_
  refine an_get (ci := 6) (v := .long (trace)) (C := RX6) (T := TX6) (N := 23) hx hb hts iw_X6_trace_X6 hown hK hP 0 rfl rfl 1 (by decide) (hts _ fl_X6_trace_103) rfl dX6_trace_6 ?_
  exact wr_lret () hx hb hr hlocks (rfl) (fun t ht => show va_P g.1 vwCl (wM g trace value draft typed vocables letter long1 feet sort order left opn own other pick parts frm size isYear isNext ways nextWays) t.heap by rw [ht]; exact hP) hS dX6_trace_9
theorem iw_X6_clear_X6 : ∀ w ∈ u_ws RX6 TX6 23, w ∈ wsX6_clear := by decide +kernel
theorem fl_X6_clear_67 : Cond.fieldLink RX6 67 (TX6 0).1 (TX6 0).2.1 (TX6 0).2.2.1 ∈ wsX6_clear := by decide +kernel
theorem fl_X6_clear_117 : Cond.fieldLink RX6 117 (TX6 4).1 (TX6 4).2.1 (TX6 4).2.2.1 ∈ wsX6_clear := by decide +kernel
set_option maxHeartbeats 200000 in
set_option maxRecDepth 100000 in
theorem c_X6_clear (l : Launch) {g : GW} {trace : Int64} {value : Nat → Int32} {draft : Nat → Int32} {L : Nat} {vocables : Int32} {letter : Nat → Int32} {long1 : Nat → Int32} {feet : Nat → Int32} {sort : Nat → Int32} {order : Nat → Int32} {left : Nat → Int64} {opn : Nat → Int64} {own : Nat → Int32} {other : Nat → Int32} {pick : Nat → Int32} {parts : Int32} {frm : Nat → Int32} {size : Nat → Int32} {isYear : Nat → Int32} {isNext : Nat → Int32} {ways : Nat → Int64} {nextWays : Nat → Int64} {sz : Nat}  (hd : dW 19 g.2.2) : Met l yX6_clear wsX6_clear ({ frames := 0, cells := 0, slots := 0, locals := 0 }) (va_Pc ([.ref (g.2.2 0)]) (qW g (wM g trace value draft (nI (L)) vocables letter long1 feet sort order left opn own other pick parts frm size isYear isNext ways nextWays) sz)) (va_Qi (fun (r : Int32) (z : Int32) => r = nI L ∧ z = nI 0) (fun (z : Int32) (t : State) => va_P g.1 vwCl (wM g trace value draft z vocables letter long1 feet sort order left opn own other pick parts frm size isYear isNext ways nextWays) t.heap) (aW 19 g.2.2 sz)) 0 0 (aW 19 g.2.2 sz) := by
  refine Met.ofW (cc := cX6_clear) (maxL := 2) (ret := (some .int)) (by decide) rfl ?_
  intro p e s m args below meth c s₁ B hml hv
  obtain ⟨rfl, hsz9, hP, hK, hN⟩ := hv
  subst hsz9
  have hx := B.exec
  have hb := B.bytes
  have hr := B.returns
  have hts := atoms_spec (ws := wsX6_clear) B.pre
  have hown : s.vm.findClass RX6 = some m.cls := findClass_of_methodNamed B.named
  have hlocks := B.notSynchronized
  have hS : va_S (aW 19 g.2.2 s.heap.size) s.heap s.heap [] := va_S.rf
  have hl := lv_entry ([.ref (g.2.2 0)]) (n := 2) (Nat.le_of_ble_eq_true rfl)
  rw [lg_entry_eq]
  generalize (lg_sl ([.ref (g.2.2 0)]) ++ List.replicate (2 - (lg_sl ([.ref (g.2.2 0)])).length) Slot.unset).toArray = ls at hl ⊢
  have hl : lv_has ls 2 [(0, .ref (g.2.2 0))] := hl
  refine lv_aload_n hx hb dX6_clear_0 rfl (lv_at hl 0 rfl) ?_
  refine lv_iconst (v := (nI (0))) hx hb dX6_clear_1 (by decide) ?_
  refine an_put (ci := 6) (v := .int (nI (0))) (ty := .int) (C := RX6) (T := TX6) (N := 23) (ws' := (wM g trace value draft (nI (L)) vocables letter long1 feet sort order left opn own other pick parts frm size isYear isNext ways nextWays)) hx hb hts iw_X6_clear_X6 tyX6 tyX6_ok nmX6 hown hK hP (wM_D hd) hS 0 rfl rfl 0 (by decide) (hts _ fl_X6_clear_67) rfl (by decide +kernel) (rfl) (rfl) (Nat.le_of_ble_eq_true rfl) rfl dX6_clear_2 (fun H locs hP hS => ?_)
  refine lv_aload_n hx hb dX6_clear_5 rfl (lv_at hl 0 rfl) ?_
  refine an_get (ci := 6) (v := .int (nI (L))) (C := RX6) (T := TX6) (N := 23) hx hb hts iw_X6_clear_X6 hown hK hP 0 rfl rfl 4 (by decide) (hts _ fl_X6_clear_117) rfl dX6_clear_6 ?_
  refine lv_istore_n (lv' := [(1, .int (nI (L))), (0, .ref (g.2.2 0))]) hx hb dX6_clear_9 rfl hl (by decide) rfl (fun ls hl => ?_)
  refine lv_aload_n hx hb dX6_clear_10 rfl (lv_at hl 1 rfl) ?_
  refine lv_iconst (v := (nI (0))) hx hb dX6_clear_11 (by decide) ?_
  refine an_put (ci := 6) (v := .int (nI (0))) (ty := .int) (C := RX6) (T := TX6) (N := 23) (ws' := (wM g trace value draft ((nI (0))) vocables letter long1 feet sort order left opn own other pick parts frm size isYear isNext ways nextWays)) hx hb hts iw_X6_clear_X6 tyX6 tyX6_ok nmX6 hown hK hP (wM_D hd) hS 0 rfl rfl 4 (by decide) (hts _ fl_X6_clear_117) rfl (by decide +kernel) (rfl) (rfl) (Nat.le_of_ble_eq_true rfl) rfl dX6_clear_12 (fun H locs hP hS => ?_)
  refine lv_iload_n hx hb dX6_clear_15 rfl (lv_at hl 0 rfl) ?_
  exact wr_iret ((nI (0))) hx hb hr hlocks (⟨rfl, rfl⟩) (fun t ht => show va_P g.1 vwCl (wM g trace value draft ((nI (0))) vocables letter long1 feet sort order left opn own other pick parts frm size isYear isNext ways nextWays) t.heap by rw [ht]; exact hP) hS dX6_clear_16
theorem iw_X6_sum_X6 : ∀ w ∈ u_ws RX6 TX6 23, w ∈ wsX6_sum := by decide +kernel
theorem fl_X6_sum_67 : Cond.fieldLink RX6 67 (TX6 0).1 (TX6 0).2.1 (TX6 0).2.2.1 ∈ wsX6_sum := by decide +kernel
set_option maxHeartbeats 200000 in
set_option maxRecDepth 100000 in
theorem c_X6_sum (l : Launch) {g : GW} {trace : Int64} {value : Nat → Int32} {draft : Nat → Int32} {L : Nat} {vocables : Int32} {letter : Nat → Int32} {long1 : Nat → Int32} {feet : Nat → Int32} {sort : Nat → Int32} {order : Nat → Int32} {left : Nat → Int64} {opn : Nat → Int64} {own : Nat → Int32} {other : Nat → Int32} {pick : Nat → Int32} {parts : Int32} {frm : Nat → Int32} {size : Nat → Int32} {isYear : Nat → Int32} {isNext : Nat → Int32} {ways : Nat → Int64} {nextWays : Nat → Int64} {sz : Nat} (counting : Int32) (custom : Int32) (hL2 : L ≤ 40) (hd : dW 19 g.2.2) : Met l yX6_sum wsX6_sum ({ frames := 5, cells := 0, slots := 0, locals := 113 }) (va_Pc ([.ref (g.2.2 0), .int (counting), .int (custom)]) (qW g (wM g trace value draft (nI (L)) vocables letter long1 feet sort order left opn own other pick parts frm size isYear isNext ways nextWays) sz)) (va_Qi (fun (r : Int32) (z : Unit) => r = aSum value draft L counting custom) (fun (z : Unit) (t : State) => va_P g.1 vwCl (wM g trace value draft (nI (L)) vocables letter long1 feet sort order left opn own other pick parts frm size isYear isNext ways nextWays) t.heap) (aW 19 g.2.2 sz)) 0 0 (aW 19 g.2.2 sz) := by
  refine Met.ofW (cc := cX6_sum) (maxL := 3) (ret := (some .int)) (by decide) rfl ?_
  intro p e s m args below meth c s₁ B hml hv
  obtain ⟨rfl, hsz9, hP, hK, hN⟩ := hv
  subst hsz9
  have hx := B.exec
  have hb := B.bytes
  have hr := B.returns
  have hts := atoms_spec (ws := wsX6_sum) B.pre
  have hown : s.vm.findClass RX6 = some m.cls := findClass_of_methodNamed B.named
  have hlocks := B.notSynchronized
  have hS : va_S (aW 19 g.2.2 s.heap.size) s.heap s.heap [] := va_S.rf
  have hl := lv_entry ([.ref (g.2.2 0), .int (counting), .int (custom)]) (n := 3) (Nat.le_of_ble_eq_true rfl)
  rw [lg_entry_eq]
  generalize (lg_sl ([.ref (g.2.2 0), .int (counting), .int (custom)]) ++ List.replicate (3 - (lg_sl ([.ref (g.2.2 0), .int (counting), .int (custom)])).length) Slot.unset).toArray = ls at hl ⊢
  have hl : lv_has ls 3 [(0, .ref (g.2.2 0)), (1, .int (counting)), (2, .int (custom))] := hl
  refine lv_aload_n hx hb dX6_sum_0 rfl (lv_at hl 0 rfl) ?_
  refine lv_iconst (v := (nI (0))) hx hb dX6_sum_1 (by decide) ?_
  refine an_put (ci := 6) (v := .int (nI (0))) (ty := .int) (C := RX6) (T := TX6) (N := 23) (ws' := (wM g trace value draft (nI (L)) vocables letter long1 feet sort order left opn own other pick parts frm size isYear isNext ways nextWays)) hx hb hts iw_X6_sum_X6 tyX6 tyX6_ok nmX6 hown hK hP (wM_D hd) hS 0 rfl rfl 0 (by decide) (hts _ fl_X6_sum_67) rfl (by decide +kernel) (rfl) (rfl) (Nat.le_of_ble_eq_true rfl) rfl dX6_sum_2 (fun H locs hP hS => ?_)
  refine lv_iload_n hx hb dX6_sum_5 rfl (lv_at hl 1 rfl) ?_
  refine lv_iload_n hx hb dX6_sum_6 rfl (lv_at hl 2 rfl) ?_
  refine ro_call (va_runS (As := [.int (counting), .int (custom)]) (rest := []) ⟨hx, hb, hml, hown, hts⟩ (c_X6_isWay l (counting) (custom)) (va_cwS 2 hts gX6_sum_X6_isWay rfl rfl rfl (by decide +kernel) ⟨Nat.le_of_ble_eq_true rfl, Nat.le_of_ble_eq_true rfl⟩) pre_0 rfl rfl hl.1 rfl (lv_room (Nat.le_of_ble_eq_true rfl)) dX6_sum_7 ⟨Nat.zero_le _, Nat.zero_le _⟩) ?_
  refine lv_if_eq (tgt := 22) hx hb dX6_sum_10 (by decide) (fun c_10 => ?_) (fun c_10 => ?_)
  · have c_10 := if_n c_10
    refine lv_iconst (v := ((-1 : Int32))) hx hb dX6_sum_22 (by decide) ?_
    exact wr_iret () hx hb hr hlocks (by unfold aSum; rw [if_neg c_10]) (fun t ht => show va_P g.1 vwCl (wM g trace value draft (nI (L)) vocables letter long1 feet sort order left opn own other pick parts frm size isYear isNext ways nextWays) t.heap by rw [ht]; exact hP) hS dX6_sum_23
  · have c_10 := if_p c_10
    have c10 := c_10
    obtain ⟨⟨h51, h52⟩, h53, h54⟩ := c_10
    obtain ⟨n9, hn9, rfl⟩ := iN_of (b := 3) h51 h52
    obtain ⟨k9, hk9, rfl⟩ := iN_of (b := 4) h53 h54
    refine lv_aload_n hx hb dX6_sum_13 rfl (lv_at hl 0 rfl) ?_
    refine lv_iload_n hx hb dX6_sum_14 rfl (lv_at hl 1 rfl) ?_
    refine lv_iload_n hx hb dX6_sum_15 rfl (lv_at hl 2 rfl) ?_
    refine ro_call (va_runV (As := [.int (nI (n9)), .int (nI (k9))]) (rest := []) ⟨hx, hb, hml, hown, hts⟩ (c_X6_sumOf l (g := g) (trace := trace) (value := value) (draft := draft) (L := L) (vocables := vocables) (letter := letter) (long1 := long1) (feet := feet) (sort := sort) (order := order) (left := left) (opn := opn) (own := own) (other := other) (pick := pick) (parts := parts) (frm := frm) (size := size) (isYear := isYear) (isNext := isNext) (ways := ways) (nextWays := nextWays) (n9) (k9) hn9 hk9 hL2) (cwV 2 hts gX6_sum_X6_sumOf rfl rfl rfl (by decide +kernel) ⟨Nat.le_of_ble_eq_true rfl, Nat.le_of_ble_eq_true rfl⟩) (pre_V pW_bl (va_recv hK hP (ci := 6) (q0 := 0) rfl rfl) (fun U hU hW => pW_of hP hK hN hU hW)) rfl rfl hl.1 rfl (lv_room (Nat.le_of_ble_eq_true rfl)) dX6_sum_16 ⟨Nat.zero_le _, Nat.zero_le _⟩) ?_
    refine lv_goto (tgt := 23) hx hb dX6_sum_19 (by decide) ?_
    exact wr_iret () hx hb hr hlocks (by unfold aSum; rw [if_pos c10, tn_nI (show n9 < 2 ^ 31 by omega), tn_nI (show k9 < 2 ^ 31 by omega)]) (fun t ht => show va_P g.1 vwCl (wM g trace value draft (nI (L)) vocables letter long1 feet sort order left opn own other pick parts frm size isYear isNext ways nextWays) t.heap by rw [ht]; exact hP) hS dX6_sum_23
theorem iw_X6_order_X6 : ∀ w ∈ u_ws RX6 TX6 23, w ∈ wsX6_order := by decide +kernel
theorem fl_X6_order_28 : Cond.fieldLink RX6 28 (TX6 10).1 (TX6 10).2.1 (TX6 10).2.2.1 ∈ wsX6_order := by decide +kernel
theorem fl_X6_order_67 : Cond.fieldLink RX6 67 (TX6 0).1 (TX6 0).2.1 (TX6 0).2.2.1 ∈ wsX6_order := by decide +kernel
set_option maxHeartbeats 200000 in
set_option maxRecDepth 100000 in
theorem c_X6_order (l : Launch) {g : GW} {trace : Int64} {value : Nat → Int32} {draft : Nat → Int32} {typed : Int32} {vocables : Int32} {letter : Nat → Int32} {long1 : Nat → Int32} {feet : Nat → Int32} {sort : Nat → Int32} {order : Nat → Int32} {left : Nat → Int64} {opn : Nat → Int64} {own : Nat → Int32} {other : Nat → Int32} {pick : Nat → Int32} {parts : Int32} {frm : Nat → Int32} {size : Nat → Int32} {isYear : Nat → Int32} {isNext : Nat → Int32} {ways : Nat → Int64} {nextWays : Nat → Int64} {sz : Nat} (srt : Int32) (set : Int32)  (hd : dW 19 g.2.2) : Met l yX6_order wsX6_order ({ frames := 1, cells := 0, slots := 0, locals := 25 }) (va_Pc ([.ref (g.2.2 0), .int (srt), .int (set)]) (qW g (wM g trace value draft typed vocables letter long1 feet sort order left opn own other pick parts frm size isYear isNext ways nextWays) sz)) (va_Qi (fun (r : Int32) (z : (Nat → Int32)) => (¬ ook srt set ∧ r = (-1 : Int32) ∧ z = order) ∨ (ook srt set ∧ r = order (tn srt) ∧ z = upd order (tn srt) set)) (fun (z : (Nat → Int32)) (t : State) => va_P g.1 vwCl (wM g trace value draft typed vocables letter long1 feet sort z left opn own other pick parts frm size isYear isNext ways nextWays) t.heap) (aW 19 g.2.2 sz)) 0 0 (aW 19 g.2.2 sz) := by
  refine Met.ofW (cc := cX6_order) (maxL := 4) (ret := (some .int)) (by decide) rfl ?_
  intro p e s m args below meth c s₁ B hml hv
  obtain ⟨rfl, hsz9, hP, hK, hN⟩ := hv
  subst hsz9
  have hx := B.exec
  have hb := B.bytes
  have hr := B.returns
  have hts := atoms_spec (ws := wsX6_order) B.pre
  have hown : s.vm.findClass RX6 = some m.cls := findClass_of_methodNamed B.named
  have hlocks := B.notSynchronized
  have hS : va_S (aW 19 g.2.2 s.heap.size) s.heap s.heap [] := va_S.rf
  have hl := lv_entry ([.ref (g.2.2 0), .int (srt), .int (set)]) (n := 4) (Nat.le_of_ble_eq_true rfl)
  rw [lg_entry_eq]
  generalize (lg_sl ([.ref (g.2.2 0), .int (srt), .int (set)]) ++ List.replicate (4 - (lg_sl ([.ref (g.2.2 0), .int (srt), .int (set)])).length) Slot.unset).toArray = ls at hl ⊢
  have hl : lv_has ls 4 [(0, .ref (g.2.2 0)), (1, .int (srt)), (2, .int (set))] := hl
  refine lv_aload_n hx hb dX6_order_0 rfl (lv_at hl 0 rfl) ?_
  refine lv_iconst (v := (nI (0))) hx hb dX6_order_1 (by decide) ?_
  refine an_put (ci := 6) (v := .int (nI (0))) (ty := .int) (C := RX6) (T := TX6) (N := 23) (ws' := (wM g trace value draft typed vocables letter long1 feet sort order left opn own other pick parts frm size isYear isNext ways nextWays)) hx hb hts iw_X6_order_X6 tyX6 tyX6_ok nmX6 hown hK hP (wM_D hd) hS 0 rfl rfl 0 (by decide) (hts _ fl_X6_order_67) rfl (by decide +kernel) (rfl) (rfl) (Nat.le_of_ble_eq_true rfl) rfl dX6_order_2 (fun H locs hP hS => ?_)
  refine lv_iload_n hx hb dX6_order_5 rfl (lv_at hl 1 rfl) ?_
  refine lv_i2l hx hb dX6_order_6 rfl ?_
  refine lv_lconst (v := (lN (0))) hx hb dX6_order_7 (by decide) ?_
  refine lv_ldc2 hx hb hown (hts (.constantLong RX6 71 (3)) (by decide +kernel)) dX6_order_8 ?_
  refine ln_tol (y := lN 3) (by decide) ?_
  refine ro_call (va_runS (As := [.long ((srt).toInt64), .long (lN (0)), .long (lN (3))]) (rest := []) ⟨hx, hb, hml, hown, hts⟩ (c_X6_in l ((srt)) (0) (3) (by decide) (by decide)) (va_cwS 3 hts gX6_order_X6_in rfl rfl rfl (by decide +kernel) ⟨Nat.le_of_ble_eq_true rfl, Nat.le_of_ble_eq_true rfl⟩) pre_0 rfl rfl hl.1 rfl (lv_room (Nat.le_of_ble_eq_true rfl)) dX6_order_11 ⟨Nat.zero_le _, Nat.zero_le _⟩) ?_
  refine lv_if_eq (tgt := 29) hx hb dX6_order_14 (by decide) (fun c_14 => ?_) (fun c_14 => ?_)
  · have c_14 := if_n c_14
    refine lv_iconst (v := ((-1 : Int32))) hx hb dX6_order_29 (by decide) ?_
    exact wr_iret (order) hx hb hr hlocks (Or.inl ⟨by omega, rfl, rfl⟩) (fun t ht => show va_P g.1 vwCl (wM g trace value draft typed vocables letter long1 feet sort order left opn own other pick parts frm size isYear isNext ways nextWays) t.heap by rw [ht]; exact hP) hS dX6_order_30
  · have c_14 := if_p c_14
    refine lv_iload_n hx hb dX6_order_17 rfl (lv_at hl 2 rfl) ?_
    refine lv_i2l hx hb dX6_order_18 rfl ?_
    refine lv_lconst (v := (lN (0))) hx hb dX6_order_19 (by decide) ?_
    refine lv_ldc2 hx hb hown (hts (.constantLong RX6 127 (7)) (by decide +kernel)) dX6_order_20 ?_
    refine ln_tol (y := lN 7) (by decide) ?_
    refine ro_call (va_runS (As := [.long ((set).toInt64), .long (lN (0)), .long (lN (7))]) (rest := []) ⟨hx, hb, hml, hown, hts⟩ (c_X6_in l ((set)) (0) (7) (by decide) (by decide)) (va_cwS 3 hts gX6_order_X6_in rfl rfl rfl (by decide +kernel) ⟨Nat.le_of_ble_eq_true rfl, Nat.le_of_ble_eq_true rfl⟩) pre_0 rfl rfl hl.1 rfl (lv_room (Nat.le_of_ble_eq_true rfl)) dX6_order_23 ⟨Nat.zero_le _, Nat.zero_le _⟩) ?_
    refine lv_if_ne (tgt := 31) hx hb dX6_order_26 (by decide) (fun c_26 => ?_) (fun c_26 => ?_)
    · have c_26 := if_p c_26
      obtain ⟨s9, hs9, rfl⟩ := iN_of (x := srt) (b := 4) (by omega) (by omega)
      have hsn : tn (nI s9) = s9 := tn_nI (by omega)
      refine lv_aload_n hx hb dX6_order_31 rfl (lv_at hl 0 rfl) ?_
      refine an_get (ci := 6) (v := .ref (g.2.2 7)) (C := RX6) (T := TX6) (N := 23) hx hb hts iw_X6_order_X6 hown hK hP 0 rfl rfl 10 (by decide) (hts _ fl_X6_order_28) rfl dX6_order_32 ?_
      refine lv_iload_n hx hb dX6_order_35 rfl (lv_at hl 1 rfl) ?_
      refine an_iald (f := order) hx hb hK hP 7 0 rfl rfl (by decide) (by omega) dX6_order_36 ?_
      refine lv_istore_n (lv' := [(3, .int (order (s9))), (0, .ref (g.2.2 0)), (1, .int (nI (s9))), (2, .int (set))]) hx hb dX6_order_37 rfl hl (by decide) rfl (fun ls hl => ?_)
      refine lv_aload_n hx hb dX6_order_38 rfl (lv_at hl 1 rfl) ?_
      refine an_get (ci := 6) (v := .ref (g.2.2 7)) (C := RX6) (T := TX6) (N := 23) hx hb hts iw_X6_order_X6 hown hK hP 0 rfl rfl 10 (by decide) (hts _ fl_X6_order_28) rfl dX6_order_39 ?_
      refine lv_iload_n hx hb dX6_order_42 rfl (lv_at hl 2 rfl) ?_
      refine lv_iload_n hx hb dX6_order_43 rfl (lv_at hl 3 rfl) ?_
      refine an_iast (f := order) (ws' := (wM g trace value draft typed vocables letter long1 feet sort (upd (order) (s9) (set)) left opn own other pick parts frm size isYear isNext ways nextWays)) hx hb hK hP (wM_D hd) hS 7 0 rfl rfl (by decide) (by omega) rfl dX6_order_44 (fun H locs hP hS => ?_)
      refine lv_iload_n hx hb dX6_order_45 rfl (lv_at hl 0 rfl) ?_
      exact wr_iret (upd (order) (s9) (set)) hx hb hr hlocks (by rw [hsn]; exact Or.inr ⟨by omega, rfl, rfl⟩) (fun t ht => show va_P g.1 vwCl (wM g trace value draft typed vocables letter long1 feet sort (upd (order) (s9) (set)) left opn own other pick parts frm size isYear isNext ways nextWays) t.heap by rw [ht]; exact hP) hS dX6_order_46
    · have c_26 := if_n c_26
      refine lv_iconst (v := ((-1 : Int32))) hx hb dX6_order_29 (by decide) ?_
      exact wr_iret (order) hx hb hr hlocks (Or.inl ⟨by omega, rfl, rfl⟩) (fun t ht => show va_P g.1 vwCl (wM g trace value draft typed vocables letter long1 feet sort order left opn own other pick parts frm size isYear isNext ways nextWays) t.heap by rw [ht]; exact hP) hS dX6_order_30
theorem iw_X6_about_X6 : ∀ w ∈ u_ws RX6 TX6 23, w ∈ wsX6_about := by decide +kernel
theorem fl_X6_about_16 : Cond.fieldLink RX6 16 (TX6 6).1 (TX6 6).2.1 (TX6 6).2.2.1 ∈ wsX6_about := by decide +kernel
theorem fl_X6_about_19 : Cond.fieldLink RX6 19 (TX6 7).1 (TX6 7).2.1 (TX6 7).2.2.1 ∈ wsX6_about := by decide +kernel
theorem fl_X6_about_22 : Cond.fieldLink RX6 22 (TX6 8).1 (TX6 8).2.1 (TX6 8).2.2.1 ∈ wsX6_about := by decide +kernel
theorem fl_X6_about_25 : Cond.fieldLink RX6 25 (TX6 9).1 (TX6 9).2.1 (TX6 9).2.2.1 ∈ wsX6_about := by decide +kernel
theorem fl_X6_about_67 : Cond.fieldLink RX6 67 (TX6 0).1 (TX6 0).2.1 (TX6 0).2.2.1 ∈ wsX6_about := by decide +kernel
theorem fl_X6_about_124 : Cond.fieldLink RX6 124 (TX6 5).1 (TX6 5).2.1 (TX6 5).2.2.1 ∈ wsX6_about := by decide +kernel
set_option maxHeartbeats 200000 in
set_option maxRecDepth 100000 in
theorem c_X6_about (l : Launch) {g : GW} {trace : Int64} {value : Nat → Int32} {draft : Nat → Int32} {typed : Int32} {nv : Nat} {letter : Nat → Int32} {long1 : Nat → Int32} {feet : Nat → Int32} {sort : Nat → Int32} {order : Nat → Int32} {left : Nat → Int64} {opn : Nat → Int64} {own : Nat → Int32} {other : Nat → Int32} {pick : Nat → Int32} {parts : Int32} {frm : Nat → Int32} {size : Nat → Int32} {isYear : Nat → Int32} {isNext : Nat → Int32} {ways : Nat → Int64} {nextWays : Nat → Int64} {sz : Nat} (vo : Int32) (what : Int32) (hnv : nv ≤ 10) (hd : dW 19 g.2.2) : Met l yX6_about wsX6_about ({ frames := 1, cells := 0, slots := 0, locals := 25 }) (va_Pc ([.ref (g.2.2 0), .int (vo), .int (what)]) (qW g (wM g trace value draft typed (nI (nv)) letter long1 feet sort order left opn own other pick parts frm size isYear isNext ways nextWays) sz)) (va_Qi (fun (r : Int32) (z : Unit) => r = aAbout long1 feet sort letter nv vo what) (fun (z : Unit) (t : State) => va_P g.1 vwCl (wM g trace value draft typed (nI (nv)) letter long1 feet sort order left opn own other pick parts frm size isYear isNext ways nextWays) t.heap) (aW 19 g.2.2 sz)) 0 0 (aW 19 g.2.2 sz) := by
  refine Met.ofW (cc := cX6_about) (maxL := 3) (ret := (some .int)) (by decide) rfl ?_
  intro p e s m args below meth c s₁ B hml hv
  obtain ⟨rfl, hsz9, hP, hK, hN⟩ := hv
  subst hsz9
  have hx := B.exec
  have hb := B.bytes
  have hr := B.returns
  have hts := atoms_spec (ws := wsX6_about) B.pre
  have hown : s.vm.findClass RX6 = some m.cls := findClass_of_methodNamed B.named
  have hlocks := B.notSynchronized
  have hS : va_S (aW 19 g.2.2 s.heap.size) s.heap s.heap [] := va_S.rf
  have hl := lv_entry ([.ref (g.2.2 0), .int (vo), .int (what)]) (n := 3) (Nat.le_of_ble_eq_true rfl)
  rw [lg_entry_eq]
  generalize (lg_sl ([.ref (g.2.2 0), .int (vo), .int (what)]) ++ List.replicate (3 - (lg_sl ([.ref (g.2.2 0), .int (vo), .int (what)])).length) Slot.unset).toArray = ls at hl ⊢
  have hl : lv_has ls 3 [(0, .ref (g.2.2 0)), (1, .int (vo)), (2, .int (what))] := hl
  refine lv_aload_n hx hb dX6_about_0 rfl (lv_at hl 0 rfl) ?_
  refine lv_iconst (v := (nI (0))) hx hb dX6_about_1 (by decide) ?_
  refine an_put (ci := 6) (v := .int (nI (0))) (ty := .int) (C := RX6) (T := TX6) (N := 23) (ws' := (wM g trace value draft typed (nI (nv)) letter long1 feet sort order left opn own other pick parts frm size isYear isNext ways nextWays)) hx hb hts iw_X6_about_X6 tyX6 tyX6_ok nmX6 hown hK hP (wM_D hd) hS 0 rfl rfl 0 (by decide) (hts _ fl_X6_about_67) rfl (by decide +kernel) (rfl) (rfl) (Nat.le_of_ble_eq_true rfl) rfl dX6_about_2 (fun H locs hP hS => ?_)
  have h31 := sub1_toInt (a := nv) (by omega)
  refine lv_iload_n hx hb dX6_about_5 rfl (lv_at hl 1 rfl) ?_
  refine lv_i2l hx hb dX6_about_6 rfl ?_
  refine lv_lconst (v := (lN (0))) hx hb dX6_about_7 (by decide) ?_
  refine lv_aload_n hx hb dX6_about_8 rfl (lv_at hl 0 rfl) ?_
  refine an_get (ci := 6) (v := .int (nI (nv))) (C := RX6) (T := TX6) (N := 23) hx hb hts iw_X6_about_X6 hown hK hP 0 rfl rfl 5 (by decide) (hts _ fl_X6_about_124) rfl dX6_about_9 ?_
  refine lv_iconst (v := (nI (1))) hx hb dX6_about_12 (by decide) ?_
  refine lv_isub hx hb dX6_about_13 ?_
  refine lv_i2l hx hb dX6_about_14 rfl ?_
  refine ro_call (va_runS (As := [.long ((vo).toInt64), .long (lN (0)), .long (((nI (nv)) - (nI (1))).toInt64)]) (rest := []) ⟨hx, hb, hml, hown, hts⟩ (c_X6_in_w l ((vo)) (0) (((nI (nv)) - (nI (1)))) (by decide)) (va_cwS 3 hts gX6_about_X6_in rfl rfl rfl (by decide +kernel) ⟨Nat.le_of_ble_eq_true rfl, Nat.le_of_ble_eq_true rfl⟩) pre_0 rfl rfl hl.1 rfl (lv_room (Nat.le_of_ble_eq_true rfl)) dX6_about_15 ⟨Nat.zero_le _, Nat.zero_le _⟩) ?_
  refine lv_if_eq (tgt := 33) hx hb dX6_about_18 (by decide) (fun c_18 => ?_) (fun c_18 => ?_)
  · have c_18 := if_n c_18
    refine lv_iconst (v := ((-1 : Int32))) hx hb dX6_about_33 (by decide) ?_
    exact wr_iret () hx hb hr hlocks (by unfold aAbout; by_cases q9 : 0 ≤ vo.toInt ∧ vo.toInt < (nv : Int); (rw [if_pos q9, if_neg (by omega), if_neg (by omega), if_neg (by omega), if_neg (by omega)]); rw [if_neg q9]) (fun t ht => show va_P g.1 vwCl (wM g trace value draft typed (nI (nv)) letter long1 feet sort order left opn own other pick parts frm size isYear isNext ways nextWays) t.heap by rw [ht]; exact hP) hS dX6_about_34
  · have c_18 := if_p c_18
    refine lv_iload_n hx hb dX6_about_21 rfl (lv_at hl 2 rfl) ?_
    refine lv_i2l hx hb dX6_about_22 rfl ?_
    refine lv_lconst (v := (lN (0))) hx hb dX6_about_23 (by decide) ?_
    refine lv_ldc2 hx hb hown (hts (.constantLong RX6 71 (3)) (by decide +kernel)) dX6_about_24 ?_
    refine ln_tol (y := lN 3) (by decide) ?_
    refine ro_call (va_runS (As := [.long ((what).toInt64), .long (lN (0)), .long (lN (3))]) (rest := []) ⟨hx, hb, hml, hown, hts⟩ (c_X6_in l ((what)) (0) (3) (by decide) (by decide)) (va_cwS 3 hts gX6_about_X6_in rfl rfl rfl (by decide +kernel) ⟨Nat.le_of_ble_eq_true rfl, Nat.le_of_ble_eq_true rfl⟩) pre_0 rfl rfl hl.1 rfl (lv_room (Nat.le_of_ble_eq_true rfl)) dX6_about_27 ⟨Nat.zero_le _, Nat.zero_le _⟩) ?_
    refine lv_if_ne (tgt := 35) hx hb dX6_about_30 (by decide) (fun c_30 => ?_) (fun c_30 => ?_)
    · have c_30 := if_p c_30
      obtain ⟨j, hj, rfl⟩ := iN_of (x := vo) (b := nv) (by omega) (by omega)
      have hjn : tn (nI j) = j := tn_nI (by omega)
      refine lv_iload_n hx hb dX6_about_35 rfl (lv_at hl 2 rfl) ?_
      refine lv_if_ne (tgt := 48) hx hb dX6_about_36 (by decide) (fun c_36 => ?_) (fun c_36 => ?_)
      · have c_36 := (not_congr (cz_eq_i)).mp c_36
        refine lv_iload_n hx hb dX6_about_48 rfl (lv_at hl 2 rfl) ?_
        refine lv_iconst (v := (nI (1))) hx hb dX6_about_49 (by decide) ?_
        refine lv_icmp_ne (tgt := 62) hx hb dX6_about_50 (by decide) (fun c_50 => ?_) (fun c_50 => ?_)
        · have c_50 := (not_congr (cv_eq_in (by omega))).mp c_50
          refine lv_iload_n hx hb dX6_about_62 rfl (lv_at hl 2 rfl) ?_
          refine lv_iconst (v := (nI (2))) hx hb dX6_about_63 (by decide) ?_
          refine lv_icmp_ne (tgt := 76) hx hb dX6_about_64 (by decide) (fun c_64 => ?_) (fun c_64 => ?_)
          · have c_64 := (not_congr (cv_eq_in (by omega))).mp c_64
            refine lv_aload_n hx hb dX6_about_76 rfl (lv_at hl 0 rfl) ?_
            refine an_get (ci := 6) (v := .ref (g.2.2 3)) (C := RX6) (T := TX6) (N := 23) hx hb hts iw_X6_about_X6 hown hK hP 0 rfl rfl 6 (by decide) (hts _ fl_X6_about_16) rfl dX6_about_77 ?_
            refine lv_bipush (v := (nI (8))) hx hb dX6_about_80 (by decide) ?_
            refine lv_iload_n hx hb dX6_about_82 rfl (lv_at hl 1 rfl) ?_
            refine ln_imul hx hb dX6_about_83 ?_
            refine an_iald (f := letter) hx hb hK hP 3 0 rfl rfl (by decide) (by omega) dX6_about_84 ?_
            exact wr_iret () hx hb hr hlocks (by unfold aAbout; rw [if_pos (by omega), hjn, if_neg (by omega), if_neg (by omega), if_neg (by omega), if_pos (by omega), Nat.mul_comm]) (fun t ht => show va_P g.1 vwCl (wM g trace value draft typed (nI (nv)) letter long1 feet sort order left opn own other pick parts frm size isYear isNext ways nextWays) t.heap by rw [ht]; exact hP) hS dX6_about_85
          · have c_64 := (cv_eq_in (by omega)).mp c_64
            refine lv_aload_n hx hb dX6_about_67 rfl (lv_at hl 0 rfl) ?_
            refine an_get (ci := 6) (v := .ref (g.2.2 6)) (C := RX6) (T := TX6) (N := 23) hx hb hts iw_X6_about_X6 hown hK hP 0 rfl rfl 9 (by decide) (hts _ fl_X6_about_25) rfl dX6_about_68 ?_
            refine lv_iload_n hx hb dX6_about_71 rfl (lv_at hl 1 rfl) ?_
            refine an_iald (f := sort) hx hb hK hP 6 0 rfl rfl (by decide) (by omega) dX6_about_72 ?_
            refine lv_goto (tgt := 85) hx hb dX6_about_73 (by decide) ?_
            exact wr_iret () hx hb hr hlocks (by unfold aAbout; rw [if_pos (by omega), hjn, if_neg (by omega), if_neg (by omega), if_pos (by omega)]) (fun t ht => show va_P g.1 vwCl (wM g trace value draft typed (nI (nv)) letter long1 feet sort order left opn own other pick parts frm size isYear isNext ways nextWays) t.heap by rw [ht]; exact hP) hS dX6_about_85
        · have c_50 := (cv_eq_in (by omega)).mp c_50
          refine lv_aload_n hx hb dX6_about_53 rfl (lv_at hl 0 rfl) ?_
          refine an_get (ci := 6) (v := .ref (g.2.2 5)) (C := RX6) (T := TX6) (N := 23) hx hb hts iw_X6_about_X6 hown hK hP 0 rfl rfl 8 (by decide) (hts _ fl_X6_about_22) rfl dX6_about_54 ?_
          refine lv_iload_n hx hb dX6_about_57 rfl (lv_at hl 1 rfl) ?_
          refine an_iald (f := feet) hx hb hK hP 5 0 rfl rfl (by decide) (by omega) dX6_about_58 ?_
          refine lv_goto (tgt := 85) hx hb dX6_about_59 (by decide) ?_
          exact wr_iret () hx hb hr hlocks (by unfold aAbout; rw [if_pos (by omega), hjn, if_neg (by omega), if_pos (by omega)]) (fun t ht => show va_P g.1 vwCl (wM g trace value draft typed (nI (nv)) letter long1 feet sort order left opn own other pick parts frm size isYear isNext ways nextWays) t.heap by rw [ht]; exact hP) hS dX6_about_85
      · have c_36 := (cz_eq_i).mp c_36
        refine lv_aload_n hx hb dX6_about_39 rfl (lv_at hl 0 rfl) ?_
        refine an_get (ci := 6) (v := .ref (g.2.2 4)) (C := RX6) (T := TX6) (N := 23) hx hb hts iw_X6_about_X6 hown hK hP 0 rfl rfl 7 (by decide) (hts _ fl_X6_about_19) rfl dX6_about_40 ?_
        refine lv_iload_n hx hb dX6_about_43 rfl (lv_at hl 1 rfl) ?_
        refine an_iald (f := long1) hx hb hK hP 4 0 rfl rfl (by decide) (by omega) dX6_about_44 ?_
        refine lv_goto (tgt := 85) hx hb dX6_about_45 (by decide) ?_
        exact wr_iret () hx hb hr hlocks (by unfold aAbout; rw [if_pos (by omega), hjn, if_pos (by omega)]) (fun t ht => show va_P g.1 vwCl (wM g trace value draft typed (nI (nv)) letter long1 feet sort order left opn own other pick parts frm size isYear isNext ways nextWays) t.heap by rw [ht]; exact hP) hS dX6_about_85
    · have c_30 := if_n c_30
      refine lv_iconst (v := ((-1 : Int32))) hx hb dX6_about_33 (by decide) ?_
      exact wr_iret () hx hb hr hlocks (by unfold aAbout; by_cases q9 : 0 ≤ vo.toInt ∧ vo.toInt < (nv : Int); (rw [if_pos q9, if_neg (by omega), if_neg (by omega), if_neg (by omega), if_neg (by omega)]); rw [if_neg q9]) (fun t ht => show va_P g.1 vwCl (wM g trace value draft typed (nI (nv)) letter long1 feet sort order left opn own other pick parts frm size isYear isNext ways nextWays) t.heap by rw [ht]; exact hP) hS dX6_about_34
theorem iw_X6_worth_X6 : ∀ w ∈ u_ws RX6 TX6 23, w ∈ wsX6_worth := by decide +kernel
theorem fl_X6_worth_67 : Cond.fieldLink RX6 67 (TX6 0).1 (TX6 0).2.1 (TX6 0).2.2.1 ∈ wsX6_worth := by decide +kernel
theorem fl_X6_worth_103 : Cond.fieldLink RX6 103 (TX6 1).1 (TX6 1).2.1 (TX6 1).2.2.1 ∈ wsX6_worth := by decide +kernel
set_option maxHeartbeats 200000 in
set_option maxRecDepth 100000 in
theorem c_X6_worth (l : Launch) {g : GW} {trace : Int64} {value : Nat → Int32} {draft : Nat → Int32} {typed : Int32} {vocables : Int32} {letter : Nat → Int32} {long1 : Nat → Int32} {feet : Nat → Int32} {sort : Nat → Int32} {order : Nat → Int32} {left : Nat → Int64} {opn : Nat → Int64} {own : Nat → Int32} {other : Nat → Int32} {pick : Nat → Int32} {parts : Int32} {frm : Nat → Int32} {size : Nat → Int32} {isYear : Nat → Int32} {isNext : Nat → Int32} {ways : Nat → Int64} {nextWays : Nat → Int64} {sz : Nat} (counting : Int32) (custom : Int32) (letter9 : Int32) (ahead : Int32)  (hd : dW 19 g.2.2) : Met l yX6_worth wsX6_worth ({ frames := 4, cells := 0, slots := 0, locals := 89 }) (va_Pc ([.ref (g.2.2 0), .int (counting), .int (custom), .int (letter9), .int (ahead)]) (qW g (wM g trace value draft typed vocables letter long1 feet sort order left opn own other pick parts frm size isYear isNext ways nextWays) sz)) (va_Qi (fun (r : Int32) (z : Int64) => (¬ wok counting custom letter9 ahead ∧ r = (-1 : Int32) ∧ z = trace) ∨ (wok counting custom letter9 ahead ∧ r = wv value (tn counting) (tn custom) letter9 ahead ∧ z = trace + lN (alt (tn counting)))) (fun (z : Int64) (t : State) => va_P g.1 vwCl (wM g z value draft typed vocables letter long1 feet sort order left opn own other pick parts frm size isYear isNext ways nextWays) t.heap) (aW 19 g.2.2 sz)) 0 0 (aW 19 g.2.2 sz) := by
  refine Met.ofW (cc := cX6_worth) (maxL := 5) (ret := (some .int)) (by decide) rfl ?_
  intro p e s m args below meth c s₁ B hml hv
  obtain ⟨rfl, hsz9, hP, hK, hN⟩ := hv
  subst hsz9
  have hx := B.exec
  have hb := B.bytes
  have hr := B.returns
  have hts := atoms_spec (ws := wsX6_worth) B.pre
  have hown : s.vm.findClass RX6 = some m.cls := findClass_of_methodNamed B.named
  have hlocks := B.notSynchronized
  have hS : va_S (aW 19 g.2.2 s.heap.size) s.heap s.heap [] := va_S.rf
  have hl := lv_entry ([.ref (g.2.2 0), .int (counting), .int (custom), .int (letter9), .int (ahead)]) (n := 5) (Nat.le_of_ble_eq_true rfl)
  rw [lg_entry_eq]
  generalize (lg_sl ([.ref (g.2.2 0), .int (counting), .int (custom), .int (letter9), .int (ahead)]) ++ List.replicate (5 - (lg_sl ([.ref (g.2.2 0), .int (counting), .int (custom), .int (letter9), .int (ahead)])).length) Slot.unset).toArray = ls at hl ⊢
  have hl : lv_has ls 5 [(0, .ref (g.2.2 0)), (1, .int (counting)), (2, .int (custom)), (3, .int (letter9)), (4, .int (ahead))] := hl
  refine lv_aload_n hx hb dX6_worth_0 rfl (lv_at hl 0 rfl) ?_
  refine lv_iconst (v := (nI (0))) hx hb dX6_worth_1 (by decide) ?_
  refine an_put (ci := 6) (v := .int (nI (0))) (ty := .int) (C := RX6) (T := TX6) (N := 23) (ws' := (wM g trace value draft typed vocables letter long1 feet sort order left opn own other pick parts frm size isYear isNext ways nextWays)) hx hb hts iw_X6_worth_X6 tyX6 tyX6_ok nmX6 hown hK hP (wM_D hd) hS 0 rfl rfl 0 (by decide) (hts _ fl_X6_worth_67) rfl (by decide +kernel) (rfl) (rfl) (Nat.le_of_ble_eq_true rfl) rfl dX6_worth_2 (fun H locs hP hS => ?_)
  refine lv_iload_n hx hb dX6_worth_5 rfl (lv_at hl 1 rfl) ?_
  refine lv_iload_n hx hb dX6_worth_6 rfl (lv_at hl 2 rfl) ?_
  refine ro_call (va_runS (As := [.int (counting), .int (custom)]) (rest := []) ⟨hx, hb, hml, hown, hts⟩ (c_X6_isWay l (counting) (custom)) (va_cwS 2 hts gX6_worth_X6_isWay rfl rfl rfl (by decide +kernel) ⟨Nat.le_of_ble_eq_true rfl, Nat.le_of_ble_eq_true rfl⟩) pre_0 rfl rfl hl.1 rfl (lv_room (Nat.le_of_ble_eq_true rfl)) dX6_worth_7 ⟨Nat.zero_le _, Nat.zero_le _⟩) ?_
  refine lv_if_eq (tgt := 38) hx hb dX6_worth_10 (by decide) (fun c_10 => ?_) (fun c_10 => ?_)
  · have c_10 := if_n c_10
    refine lv_iconst (v := ((-1 : Int32))) hx hb dX6_worth_38 (by decide) ?_
    exact wr_iret (trace) hx hb hr hlocks (Or.inl ⟨by omega, rfl, rfl⟩) (fun t ht => show va_P g.1 vwCl (wM g trace value draft typed vocables letter long1 feet sort order left opn own other pick parts frm size isYear isNext ways nextWays) t.heap by rw [ht]; exact hP) hS dX6_worth_39
  · have c_10 := if_p c_10
    refine lv_iload_n hx hb dX6_worth_13 rfl (lv_at hl 3 rfl) ?_
    refine lv_i2l hx hb dX6_worth_14 rfl ?_
    refine lv_lconst (v := (lN (0))) hx hb dX6_worth_15 (by decide) ?_
    refine lv_ldc2 hx hb hown (hts (.constantLong RX6 101 (255)) (by decide +kernel)) dX6_worth_16 ?_
    refine ln_tol (y := lN 255) (by decide) ?_
    refine ro_call (va_runS (As := [.long ((letter9).toInt64), .long (lN (0)), .long (lN (255))]) (rest := []) ⟨hx, hb, hml, hown, hts⟩ (c_X6_in l ((letter9)) (0) (255) (by decide) (by decide)) (va_cwS 3 hts gX6_worth_X6_in rfl rfl rfl (by decide +kernel) ⟨Nat.le_of_ble_eq_true rfl, Nat.le_of_ble_eq_true rfl⟩) pre_0 rfl rfl hl.1 rfl (lv_room (Nat.le_of_ble_eq_true rfl)) dX6_worth_19 ⟨Nat.zero_le _, Nat.zero_le _⟩) ?_
    refine lv_if_eq (tgt := 38) hx hb dX6_worth_22 (by decide) (fun c_22 => ?_) (fun c_22 => ?_)
    · have c_22 := if_n c_22
      refine lv_iconst (v := ((-1 : Int32))) hx hb dX6_worth_38 (by decide) ?_
      exact wr_iret (trace) hx hb hr hlocks (Or.inl ⟨by omega, rfl, rfl⟩) (fun t ht => show va_P g.1 vwCl (wM g trace value draft typed vocables letter long1 feet sort order left opn own other pick parts frm size isYear isNext ways nextWays) t.heap by rw [ht]; exact hP) hS dX6_worth_39
    · have c_22 := if_p c_22
      refine lv_iload hx hb dX6_worth_25 (lv_at hl 4 rfl) ?_
      refine lv_i2l hx hb dX6_worth_27 rfl ?_
      refine lv_lconst (v := (lN (0))) hx hb dX6_worth_28 (by decide) ?_
      refine lv_ldc2 hx hb hown (hts (.constantLong RX6 101 (255)) (by decide +kernel)) dX6_worth_29 ?_
      refine ln_tol (y := lN 255) (by decide) ?_
      refine ro_call (va_runS (As := [.long ((ahead).toInt64), .long (lN (0)), .long (lN (255))]) (rest := []) ⟨hx, hb, hml, hown, hts⟩ (c_X6_in l ((ahead)) (0) (255) (by decide) (by decide)) (va_cwS 3 hts gX6_worth_X6_in rfl rfl rfl (by decide +kernel) ⟨Nat.le_of_ble_eq_true rfl, Nat.le_of_ble_eq_true rfl⟩) pre_0 rfl rfl hl.1 rfl (lv_room (Nat.le_of_ble_eq_true rfl)) dX6_worth_32 ⟨Nat.zero_le _, Nat.zero_le _⟩) ?_
      refine lv_if_ne (tgt := 40) hx hb dX6_worth_35 (by decide) (fun c_35 => ?_) (fun c_35 => ?_)
      · have c_35 := if_p c_35
        obtain ⟨⟨h51, h52⟩, h53, h54⟩ := c_10
        obtain ⟨n9, hn9, rfl⟩ := iN_of (b := 3) h51 h52
        obtain ⟨k9, hk9, rfl⟩ := iN_of (b := 4) h53 h54
        refine lv_aload_n hx hb dX6_worth_40 rfl (lv_at hl 0 rfl) ?_
        refine lv_dup hx hb dX6_worth_41 rfl ?_
        refine an_get (ci := 6) (v := .long (trace)) (C := RX6) (T := TX6) (N := 23) hx hb hts iw_X6_worth_X6 hown hK hP 0 rfl rfl 1 (by decide) (hts _ fl_X6_worth_103) rfl dX6_worth_42 ?_
        refine lv_iload_n hx hb dX6_worth_45 rfl (lv_at hl 1 rfl) ?_
        refine lv_if_ne (tgt := 53) hx hb dX6_worth_46 (by decide) (fun c_46 => ?_) (fun c_46 => ?_)
        · have c_46 := (not_congr (cz_eq_n (by omega))).mp c_46
          refine lv_iload_n hx hb dX6_worth_53 rfl (lv_at hl 1 rfl) ?_
          refine lv_iconst (v := (nI (1))) hx hb dX6_worth_54 (by decide) ?_
          refine lv_icmp_ne (tgt := 64) hx hb dX6_worth_55 (by decide) (fun c_55 => ?_) (fun c_55 => ?_)
          · have c_55 := (not_congr (cv_eq_nn (by omega) (by omega))).mp c_55
            refine lv_ldc2 hx hb hown (hts (.constantLong RX6 109 (111)) (by decide +kernel)) dX6_worth_64 ?_
            refine ln_tol (y := lN 111) (by decide) ?_
            refine lv_ladd hx hb dX6_worth_67 ?_
            refine an_put (ci := 6) (v := .long ((trace) + (lN (111)))) (ty := .long) (C := RX6) (T := TX6) (N := 23) (ws' := (wM g (((trace) + (lN (111)))) value draft typed vocables letter long1 feet sort order left opn own other pick parts frm size isYear isNext ways nextWays)) hx hb hts iw_X6_worth_X6 tyX6 tyX6_ok nmX6 hown hK hP (wM_D hd) hS 0 rfl rfl 1 (by decide) (hts _ fl_X6_worth_103) rfl (by decide +kernel) (rfl) (rfl) (Nat.le_of_ble_eq_true rfl) rfl dX6_worth_68 (fun H locs hP hS => ?_)
            refine lv_aload_n hx hb dX6_worth_71 rfl (lv_at hl 0 rfl) ?_
            refine lv_iload_n hx hb dX6_worth_72 rfl (lv_at hl 1 rfl) ?_
            refine lv_iload_n hx hb dX6_worth_73 rfl (lv_at hl 2 rfl) ?_
            refine lv_iload_n hx hb dX6_worth_74 rfl (lv_at hl 3 rfl) ?_
            refine lv_iload hx hb dX6_worth_75 (lv_at hl 4 rfl) ?_
            refine ro_call (va_runV (As := [.int (nI (n9)), .int (nI (k9)), .int (letter9), .int (ahead)]) (rest := []) ⟨hx, hb, hml, hown, hts⟩ (c_X6_worthOf l (g := g) (trace := ((trace) + (lN (111)))) (value := value) (draft := draft) (typed := typed) (vocables := vocables) (letter := letter) (long1 := long1) (feet := feet) (sort := sort) (order := order) (left := left) (opn := opn) (own := own) (other := other) (pick := pick) (parts := parts) (frm := frm) (size := size) (isYear := isYear) (isNext := isNext) (ways := ways) (nextWays := nextWays) (n9) (k9) (letter9) (ahead) hn9 hk9) (cwV 4 hts gX6_worth_X6_worthOf rfl rfl rfl (by decide +kernel) ⟨Nat.le_of_ble_eq_true rfl, Nat.le_of_ble_eq_true rfl⟩) (pre_V pW_bl (va_recv hK hP (ci := 6) (q0 := 0) rfl rfl) (fun U hU hW => pW_of hP hK hN hU hW)) rfl rfl hl.1 rfl (lv_room (Nat.le_of_ble_eq_true rfl)) dX6_worth_77 ⟨Nat.zero_le _, Nat.zero_le _⟩) ?_
            exact wr_iret (((trace) + (lN (111)))) hx hb hr hlocks (by rw [tn_nI (show n9 < 2 ^ 31 by omega), tn_nI (show k9 < 2 ^ 31 by omega)]; exact Or.inr ⟨by omega, rfl, by rw [show n9 = 2 by omega]; rfl⟩) (fun t ht => show va_P g.1 vwCl (wM g (((trace) + (lN (111)))) value draft typed vocables letter long1 feet sort order left opn own other pick parts frm size isYear isNext ways nextWays) t.heap by rw [ht]; exact hP) hS dX6_worth_80
          · have c_55 := (cv_eq_nn (by omega) (by omega)).mp c_55
            refine lv_ldc2 hx hb hown (hts (.constantLong RX6 107 (11)) (by decide +kernel)) dX6_worth_58 ?_
            refine ln_tol (y := lN 11) (by decide) ?_
            refine lv_goto (tgt := 67) hx hb dX6_worth_61 (by decide) ?_
            refine lv_ladd hx hb dX6_worth_67 ?_
            refine an_put (ci := 6) (v := .long ((trace) + (lN (11)))) (ty := .long) (C := RX6) (T := TX6) (N := 23) (ws' := (wM g (((trace) + (lN (11)))) value draft typed vocables letter long1 feet sort order left opn own other pick parts frm size isYear isNext ways nextWays)) hx hb hts iw_X6_worth_X6 tyX6 tyX6_ok nmX6 hown hK hP (wM_D hd) hS 0 rfl rfl 1 (by decide) (hts _ fl_X6_worth_103) rfl (by decide +kernel) (rfl) (rfl) (Nat.le_of_ble_eq_true rfl) rfl dX6_worth_68 (fun H locs hP hS => ?_)
            refine lv_aload_n hx hb dX6_worth_71 rfl (lv_at hl 0 rfl) ?_
            refine lv_iload_n hx hb dX6_worth_72 rfl (lv_at hl 1 rfl) ?_
            refine lv_iload_n hx hb dX6_worth_73 rfl (lv_at hl 2 rfl) ?_
            refine lv_iload_n hx hb dX6_worth_74 rfl (lv_at hl 3 rfl) ?_
            refine lv_iload hx hb dX6_worth_75 (lv_at hl 4 rfl) ?_
            refine ro_call (va_runV (As := [.int (nI (n9)), .int (nI (k9)), .int (letter9), .int (ahead)]) (rest := []) ⟨hx, hb, hml, hown, hts⟩ (c_X6_worthOf l (g := g) (trace := ((trace) + (lN (11)))) (value := value) (draft := draft) (typed := typed) (vocables := vocables) (letter := letter) (long1 := long1) (feet := feet) (sort := sort) (order := order) (left := left) (opn := opn) (own := own) (other := other) (pick := pick) (parts := parts) (frm := frm) (size := size) (isYear := isYear) (isNext := isNext) (ways := ways) (nextWays := nextWays) (n9) (k9) (letter9) (ahead) hn9 hk9) (cwV 4 hts gX6_worth_X6_worthOf rfl rfl rfl (by decide +kernel) ⟨Nat.le_of_ble_eq_true rfl, Nat.le_of_ble_eq_true rfl⟩) (pre_V pW_bl (va_recv hK hP (ci := 6) (q0 := 0) rfl rfl) (fun U hU hW => pW_of hP hK hN hU hW)) rfl rfl hl.1 rfl (lv_room (Nat.le_of_ble_eq_true rfl)) dX6_worth_77 ⟨Nat.zero_le _, Nat.zero_le _⟩) ?_
            exact wr_iret (((trace) + (lN (11)))) hx hb hr hlocks (by rw [tn_nI (show n9 < 2 ^ 31 by omega), tn_nI (show k9 < 2 ^ 31 by omega)]; exact Or.inr ⟨by omega, rfl, by rw [show n9 = 1 by omega]; rfl⟩) (fun t ht => show va_P g.1 vwCl (wM g (((trace) + (lN (11)))) value draft typed vocables letter long1 feet sort order left opn own other pick parts frm size isYear isNext ways nextWays) t.heap by rw [ht]; exact hP) hS dX6_worth_80
        · have c_46 := (cz_eq_n (by omega)).mp c_46
          refine lv_lconst (v := (lN (1))) hx hb dX6_worth_49 (by decide) ?_
          refine lv_goto (tgt := 67) hx hb dX6_worth_50 (by decide) ?_
          refine lv_ladd hx hb dX6_worth_67 ?_
          refine an_put (ci := 6) (v := .long ((trace) + (lN (1)))) (ty := .long) (C := RX6) (T := TX6) (N := 23) (ws' := (wM g (((trace) + (lN (1)))) value draft typed vocables letter long1 feet sort order left opn own other pick parts frm size isYear isNext ways nextWays)) hx hb hts iw_X6_worth_X6 tyX6 tyX6_ok nmX6 hown hK hP (wM_D hd) hS 0 rfl rfl 1 (by decide) (hts _ fl_X6_worth_103) rfl (by decide +kernel) (rfl) (rfl) (Nat.le_of_ble_eq_true rfl) rfl dX6_worth_68 (fun H locs hP hS => ?_)
          refine lv_aload_n hx hb dX6_worth_71 rfl (lv_at hl 0 rfl) ?_
          refine lv_iload_n hx hb dX6_worth_72 rfl (lv_at hl 1 rfl) ?_
          refine lv_iload_n hx hb dX6_worth_73 rfl (lv_at hl 2 rfl) ?_
          refine lv_iload_n hx hb dX6_worth_74 rfl (lv_at hl 3 rfl) ?_
          refine lv_iload hx hb dX6_worth_75 (lv_at hl 4 rfl) ?_
          refine ro_call (va_runV (As := [.int (nI (n9)), .int (nI (k9)), .int (letter9), .int (ahead)]) (rest := []) ⟨hx, hb, hml, hown, hts⟩ (c_X6_worthOf l (g := g) (trace := ((trace) + (lN (1)))) (value := value) (draft := draft) (typed := typed) (vocables := vocables) (letter := letter) (long1 := long1) (feet := feet) (sort := sort) (order := order) (left := left) (opn := opn) (own := own) (other := other) (pick := pick) (parts := parts) (frm := frm) (size := size) (isYear := isYear) (isNext := isNext) (ways := ways) (nextWays := nextWays) (n9) (k9) (letter9) (ahead) hn9 hk9) (cwV 4 hts gX6_worth_X6_worthOf rfl rfl rfl (by decide +kernel) ⟨Nat.le_of_ble_eq_true rfl, Nat.le_of_ble_eq_true rfl⟩) (pre_V pW_bl (va_recv hK hP (ci := 6) (q0 := 0) rfl rfl) (fun U hU hW => pW_of hP hK hN hU hW)) rfl rfl hl.1 rfl (lv_room (Nat.le_of_ble_eq_true rfl)) dX6_worth_77 ⟨Nat.zero_le _, Nat.zero_le _⟩) ?_
          exact wr_iret (((trace) + (lN (1)))) hx hb hr hlocks (by rw [tn_nI (show n9 < 2 ^ 31 by omega), tn_nI (show k9 < 2 ^ 31 by omega)]; exact Or.inr ⟨by omega, rfl, by rw [show n9 = 0 by omega]; rfl⟩) (fun t ht => show va_P g.1 vwCl (wM g (((trace) + (lN (1)))) value draft typed vocables letter long1 feet sort order left opn own other pick parts frm size isYear isNext ways nextWays) t.heap by rw [ht]; exact hP) hS dX6_worth_80
      · have c_35 := if_n c_35
        refine lv_iconst (v := ((-1 : Int32))) hx hb dX6_worth_38 (by decide) ?_
        exact wr_iret (trace) hx hb hr hlocks (Or.inl ⟨by omega, rfl, rfl⟩) (fun t ht => show va_P g.1 vwCl (wM g trace value draft typed vocables letter long1 feet sort order left opn own other pick parts frm size isYear isNext ways nextWays) t.heap by rw [ht]; exact hP) hS dX6_worth_39
theorem iw_X6_value_X6 : ∀ w ∈ u_ws RX6 TX6 23, w ∈ wsX6_value := by decide +kernel
theorem fl_X6_value_7 : Cond.fieldLink RX6 7 (TX6 2).1 (TX6 2).2.1 (TX6 2).2.2.1 ∈ wsX6_value := by decide +kernel
theorem fl_X6_value_67 : Cond.fieldLink RX6 67 (TX6 0).1 (TX6 0).2.1 (TX6 0).2.2.1 ∈ wsX6_value := by decide +kernel
set_option maxHeartbeats 200000 in
set_option maxRecDepth 100000 in
theorem c_X6_value (l : Launch) {g : GW} {trace : Int64} {value : Nat → Int32} {draft : Nat → Int32} {typed : Int32} {vocables : Int32} {letter : Nat → Int32} {long1 : Nat → Int32} {feet : Nat → Int32} {sort : Nat → Int32} {order : Nat → Int32} {left : Nat → Int64} {opn : Nat → Int64} {own : Nat → Int32} {other : Nat → Int32} {pick : Nat → Int32} {parts : Int32} {frm : Nat → Int32} {size : Nat → Int32} {isYear : Nat → Int32} {isNext : Nat → Int32} {ways : Nat → Int64} {nextWays : Nat → Int64} {sz : Nat} (custom : Int32) (letter9 : Int32) (v : Int32)  (hd : dW 19 g.2.2) : Met l yX6_value wsX6_value ({ frames := 1, cells := 0, slots := 0, locals := 25 }) (va_Pc ([.ref (g.2.2 0), .int (custom), .int (letter9), .int (v)]) (qW g (wM g trace value draft typed vocables letter long1 feet sort order left opn own other pick parts frm size isYear isNext ways nextWays) sz)) (va_Qi (fun (r : Int32) (z : (Nat → Int32)) => (¬ vok custom letter9 v ∧ r = (-1 : Int32) ∧ z = value) ∨ (vok custom letter9 v ∧ r = value (26 * tn custom + (tn letter9 - 97)) ∧ z = upd value (26 * tn custom + (tn letter9 - 97)) v)) (fun (z : (Nat → Int32)) (t : State) => va_P g.1 vwCl (wM g trace z draft typed vocables letter long1 feet sort order left opn own other pick parts frm size isYear isNext ways nextWays) t.heap) (aW 19 g.2.2 sz)) 0 0 (aW 19 g.2.2 sz) := by
  refine Met.ofW (cc := cX6_value) (maxL := 5) (ret := (some .int)) (by decide) rfl ?_
  intro p e s m args below meth c s₁ B hml hv
  obtain ⟨rfl, hsz9, hP, hK, hN⟩ := hv
  subst hsz9
  have hx := B.exec
  have hb := B.bytes
  have hr := B.returns
  have hts := atoms_spec (ws := wsX6_value) B.pre
  have hown : s.vm.findClass RX6 = some m.cls := findClass_of_methodNamed B.named
  have hlocks := B.notSynchronized
  have hS : va_S (aW 19 g.2.2 s.heap.size) s.heap s.heap [] := va_S.rf
  have hl := lv_entry ([.ref (g.2.2 0), .int (custom), .int (letter9), .int (v)]) (n := 5) (Nat.le_of_ble_eq_true rfl)
  rw [lg_entry_eq]
  generalize (lg_sl ([.ref (g.2.2 0), .int (custom), .int (letter9), .int (v)]) ++ List.replicate (5 - (lg_sl ([.ref (g.2.2 0), .int (custom), .int (letter9), .int (v)])).length) Slot.unset).toArray = ls at hl ⊢
  have hl : lv_has ls 5 [(0, .ref (g.2.2 0)), (1, .int (custom)), (2, .int (letter9)), (3, .int (v))] := hl
  refine lv_aload_n hx hb dX6_value_0 rfl (lv_at hl 0 rfl) ?_
  refine lv_iconst (v := (nI (0))) hx hb dX6_value_1 (by decide) ?_
  refine an_put (ci := 6) (v := .int (nI (0))) (ty := .int) (C := RX6) (T := TX6) (N := 23) (ws' := (wM g trace value draft typed vocables letter long1 feet sort order left opn own other pick parts frm size isYear isNext ways nextWays)) hx hb hts iw_X6_value_X6 tyX6 tyX6_ok nmX6 hown hK hP (wM_D hd) hS 0 rfl rfl 0 (by decide) (hts _ fl_X6_value_67) rfl (by decide +kernel) (rfl) (rfl) (Nat.le_of_ble_eq_true rfl) rfl dX6_value_2 (fun H locs hP hS => ?_)
  refine lv_iload_n hx hb dX6_value_5 rfl (lv_at hl 1 rfl) ?_
  refine lv_i2l hx hb dX6_value_6 rfl ?_
  refine lv_lconst (v := (lN (0))) hx hb dX6_value_7 (by decide) ?_
  refine lv_ldc2 hx hb hown (hts (.constantLong RX6 71 (3)) (by decide +kernel)) dX6_value_8 ?_
  refine ln_tol (y := lN 3) (by decide) ?_
  refine ro_call (va_runS (As := [.long ((custom).toInt64), .long (lN (0)), .long (lN (3))]) (rest := []) ⟨hx, hb, hml, hown, hts⟩ (c_X6_in l ((custom)) (0) (3) (by decide) (by decide)) (va_cwS 3 hts gX6_value_X6_in rfl rfl rfl (by decide +kernel) ⟨Nat.le_of_ble_eq_true rfl, Nat.le_of_ble_eq_true rfl⟩) pre_0 rfl rfl hl.1 rfl (lv_room (Nat.le_of_ble_eq_true rfl)) dX6_value_11 ⟨Nat.zero_le _, Nat.zero_le _⟩) ?_
  refine lv_if_eq (tgt := 38) hx hb dX6_value_14 (by decide) (fun c_14 => ?_) (fun c_14 => ?_)
  · have c_14 := if_n c_14
    refine lv_iconst (v := ((-1 : Int32))) hx hb dX6_value_38 (by decide) ?_
    exact wr_iret (value) hx hb hr hlocks (Or.inl ⟨by omega, rfl, rfl⟩) (fun t ht => show va_P g.1 vwCl (wM g trace value draft typed vocables letter long1 feet sort order left opn own other pick parts frm size isYear isNext ways nextWays) t.heap by rw [ht]; exact hP) hS dX6_value_39
  · have c_14 := if_p c_14
    refine lv_iload_n hx hb dX6_value_17 rfl (lv_at hl 2 rfl) ?_
    refine lv_i2l hx hb dX6_value_18 rfl ?_
    refine lv_ldc2 hx hb hown (hts (.constantLong RX6 77 (97)) (by decide +kernel)) dX6_value_19 ?_
    refine ln_tol (y := lN 97) (by decide) ?_
    refine lv_ldc2 hx hb hown (hts (.constantLong RX6 79 (122)) (by decide +kernel)) dX6_value_22 ?_
    refine ln_tol (y := lN 122) (by decide) ?_
    refine ro_call (va_runS (As := [.long ((letter9).toInt64), .long (lN (97)), .long (lN (122))]) (rest := []) ⟨hx, hb, hml, hown, hts⟩ (c_X6_in l ((letter9)) (97) (122) (by decide) (by decide)) (va_cwS 3 hts gX6_value_X6_in rfl rfl rfl (by decide +kernel) ⟨Nat.le_of_ble_eq_true rfl, Nat.le_of_ble_eq_true rfl⟩) pre_0 rfl rfl hl.1 rfl (lv_room (Nat.le_of_ble_eq_true rfl)) dX6_value_25 ⟨Nat.zero_le _, Nat.zero_le _⟩) ?_
    refine lv_if_eq (tgt := 38) hx hb dX6_value_28 (by decide) (fun c_28 => ?_) (fun c_28 => ?_)
    · have c_28 := if_n c_28
      refine lv_iconst (v := ((-1 : Int32))) hx hb dX6_value_38 (by decide) ?_
      exact wr_iret (value) hx hb hr hlocks (Or.inl ⟨by omega, rfl, rfl⟩) (fun t ht => show va_P g.1 vwCl (wM g trace value draft typed vocables letter long1 feet sort order left opn own other pick parts frm size isYear isNext ways nextWays) t.heap by rw [ht]; exact hP) hS dX6_value_39
    · have c_28 := if_p c_28
      refine lv_iload_n hx hb dX6_value_31 rfl (lv_at hl 3 rfl) ?_
      refine ro_call (va_runS (As := [.int (v)]) (rest := []) ⟨hx, hb, hml, hown, hts⟩ (c_X6_isValue l (v)) (va_cwS 1 hts gX6_value_X6_isValue rfl rfl rfl (by decide +kernel) ⟨Nat.le_of_ble_eq_true rfl, Nat.le_of_ble_eq_true rfl⟩) pre_0 rfl rfl hl.1 rfl (lv_room (Nat.le_of_ble_eq_true rfl)) dX6_value_32 ⟨Nat.zero_le _, Nat.zero_le _⟩) ?_
      refine lv_if_ne (tgt := 40) hx hb dX6_value_35 (by decide) (fun c_35 => ?_) (fun c_35 => ?_)
      · have c_35 := if_p c_35
        obtain ⟨cc9, hc9, rfl⟩ := iN_of (x := custom) (b := 4) (by omega) (by omega)
        obtain ⟨lj, hlj, rfl⟩ := iN_of (x := letter9) (b := 123) (by omega) (by omega)
        have hlt : (nI lj).toInt = (lj : Int) := nI_toInt (by omega)
        have hct : (nI cc9).toInt = (cc9 : Int) := nI_toInt (by omega)
        refine lv_aload_n hx hb dX6_value_40 rfl (lv_at hl 0 rfl) ?_
        refine an_get (ci := 6) (v := .ref (g.2.2 1)) (C := RX6) (T := TX6) (N := 23) hx hb hts iw_X6_value_X6 hown hK hP 0 rfl rfl 2 (by decide) (hts _ fl_X6_value_7) rfl dX6_value_41 ?_
        refine lv_bipush (v := (nI (26))) hx hb dX6_value_44 (by decide) ?_
        refine lv_iload_n hx hb dX6_value_46 rfl (lv_at hl 1 rfl) ?_
        refine ln_imul hx hb dX6_value_47 ?_
        refine lv_iload_n hx hb dX6_value_48 rfl (lv_at hl 2 rfl) ?_
        refine ln_iadd hx hb dX6_value_49 ?_
        refine lv_bipush (v := (nI (97))) hx hb dX6_value_50 (by decide) ?_
        refine ln_isub hx hb (by omega) dX6_value_52 ?_
        refine an_iald (f := value) hx hb hK hP 1 0 rfl rfl (by decide) (by omega) dX6_value_53 ?_
        refine lv_istore (lv' := [(4, .int (value (((26 * cc9) + lj) - 97))), (0, .ref (g.2.2 0)), (1, .int (nI (cc9))), (2, .int (nI (lj))), (3, .int (v))]) hx hb dX6_value_54 hl (by decide) rfl (fun ls hl => ?_)
        refine lv_aload_n hx hb dX6_value_56 rfl (lv_at hl 1 rfl) ?_
        refine an_get (ci := 6) (v := .ref (g.2.2 1)) (C := RX6) (T := TX6) (N := 23) hx hb hts iw_X6_value_X6 hown hK hP 0 rfl rfl 2 (by decide) (hts _ fl_X6_value_7) rfl dX6_value_57 ?_
        refine lv_bipush (v := (nI (26))) hx hb dX6_value_60 (by decide) ?_
        refine lv_iload_n hx hb dX6_value_62 rfl (lv_at hl 2 rfl) ?_
        refine ln_imul hx hb dX6_value_63 ?_
        refine lv_iload_n hx hb dX6_value_64 rfl (lv_at hl 3 rfl) ?_
        refine ln_iadd hx hb dX6_value_65 ?_
        refine lv_bipush (v := (nI (97))) hx hb dX6_value_66 (by decide) ?_
        refine ln_isub hx hb (by omega) dX6_value_68 ?_
        refine lv_iload_n hx hb dX6_value_69 rfl (lv_at hl 4 rfl) ?_
        refine an_iast (f := value) (ws' := (wM g trace (upd (value) (((26 * cc9) + lj) - 97) (v)) draft typed vocables letter long1 feet sort order left opn own other pick parts frm size isYear isNext ways nextWays)) hx hb hK hP (wM_D hd) hS 1 0 rfl rfl (by decide) (by omega) rfl dX6_value_70 (fun H locs hP hS => ?_)
        refine lv_iload hx hb dX6_value_71 (lv_at hl 0 rfl) ?_
        exact wr_iret (upd (value) (((26 * cc9) + lj) - 97) (v)) hx hb hr hlocks (by rw [tn_nI (show cc9 < 2 ^ 31 by omega), tn_nI (show lj < 2 ^ 31 by omega), show 26 * cc9 + (lj - 97) = 26 * cc9 + lj - 97 by omega]; exact Or.inr ⟨by omega, rfl, rfl⟩) (fun t ht => show va_P g.1 vwCl (wM g trace (upd (value) (((26 * cc9) + lj) - 97) (v)) draft typed vocables letter long1 feet sort order left opn own other pick parts frm size isYear isNext ways nextWays) t.heap by rw [ht]; exact hP) hS dX6_value_73
      · have c_35 := if_n c_35
        refine lv_iconst (v := ((-1 : Int32))) hx hb dX6_value_38 (by decide) ?_
        exact wr_iret (value) hx hb hr hlocks (Or.inl ⟨by omega, rfl, rfl⟩) (fun t ht => show va_P g.1 vwCl (wM g trace value draft typed vocables letter long1 feet sort order left opn own other pick parts frm size isYear isNext ways nextWays) t.heap by rw [ht]; exact hP) hS dX6_value_39
theorem iw_X6_borne_X6 : ∀ w ∈ u_ws RX6 TX6 23, w ∈ wsX6_borne := by decide +kernel
theorem fl_X6_borne_67 : Cond.fieldLink RX6 67 (TX6 0).1 (TX6 0).2.1 (TX6 0).2.2.1 ∈ wsX6_borne := by decide +kernel
set_option maxHeartbeats 200000 in
set_option maxRecDepth 100000 in
theorem c_X6_borne (l : Launch) {g : GW} {trace : Int64} {value : Nat → Int32} {draft : Nat → Int32} {L : Nat} {vocables : Int32} {letter : Nat → Int32} {long1 : Nat → Int32} {feet : Nat → Int32} {sort : Nat → Int32} {order : Nat → Int32} {left : Nat → Int64} {opn : Nat → Int64} {own : Nat → Int32} {other : Nat → Int32} {pick : Nat → Int32} {parts : Int32} {frm : Nat → Int32} {size : Nat → Int32} {isYear : Nat → Int32} {isNext : Nat → Int32} {ways : Nat → Int64} {nextWays : Nat → Int64} {sz : Nat} (year : Int32) (hL2 : L ≤ 40) (hd : dW 19 g.2.2) : Met l yX6_borne wsX6_borne ({ frames := 5, cells := 0, slots := 0, locals := 113 }) (va_Pc ([.ref (g.2.2 0), .int (year)]) (qW g (wM g trace value draft (nI (L)) vocables letter long1 feet sort order left opn own other pick parts frm size isYear isNext ways nextWays) sz)) (va_Qi (fun (r : Int32) (z : Unit) => r = aBorne value draft L year) (fun (z : Unit) (t : State) => va_P g.1 vwCl (wM g trace value draft (nI (L)) vocables letter long1 feet sort order left opn own other pick parts frm size isYear isNext ways nextWays) t.heap) (aW 19 g.2.2 sz)) 0 0 (aW 19 g.2.2 sz) := by
  refine Met.ofW (cc := cX6_borne) (maxL := 5) (ret := (some .int)) (by decide) rfl ?_
  intro p e s m args below meth c s₁ B hml hv
  obtain ⟨rfl, hsz9, hP, hK, hN⟩ := hv
  subst hsz9
  have hx := B.exec
  have hb := B.bytes
  have hr := B.returns
  have hts := atoms_spec (ws := wsX6_borne) B.pre
  have hown : s.vm.findClass RX6 = some m.cls := findClass_of_methodNamed B.named
  have hlocks := B.notSynchronized
  have hS : va_S (aW 19 g.2.2 s.heap.size) s.heap s.heap [] := va_S.rf
  have hl := lv_entry ([.ref (g.2.2 0), .int (year)]) (n := 5) (Nat.le_of_ble_eq_true rfl)
  rw [lg_entry_eq]
  generalize (lg_sl ([.ref (g.2.2 0), .int (year)]) ++ List.replicate (5 - (lg_sl ([.ref (g.2.2 0), .int (year)])).length) Slot.unset).toArray = ls at hl ⊢
  have hl : lv_has ls 5 [(0, .ref (g.2.2 0)), (1, .int (year))] := hl
  refine lv_aload_n hx hb dX6_borne_0 rfl (lv_at hl 0 rfl) ?_
  refine lv_iconst (v := (nI (0))) hx hb dX6_borne_1 (by decide) ?_
  refine an_put (ci := 6) (v := .int (nI (0))) (ty := .int) (C := RX6) (T := TX6) (N := 23) (ws' := (wM g trace value draft (nI (L)) vocables letter long1 feet sort order left opn own other pick parts frm size isYear isNext ways nextWays)) hx hb hts iw_X6_borne_X6 tyX6 tyX6_ok nmX6 hown hK hP (wM_D hd) hS 0 rfl rfl 0 (by decide) (hts _ fl_X6_borne_67) rfl (by decide +kernel) (rfl) (rfl) (Nat.le_of_ble_eq_true rfl) rfl dX6_borne_2 (fun H locs hP hS => ?_)
  refine lv_iload_n hx hb dX6_borne_5 rfl (lv_at hl 1 rfl) ?_
  refine lv_i2l hx hb dX6_borne_6 rfl ?_
  refine lv_lconst (v := (lN (0))) hx hb dX6_borne_7 (by decide) ?_
  refine lv_ldc2 hx hb hown (hts (.constantLong RX6 169 (60000)) (by decide +kernel)) dX6_borne_8 ?_
  refine ln_tol (y := lN 60000) (by decide) ?_
  refine ro_call (va_runS (As := [.long ((year).toInt64), .long (lN (0)), .long (lN (60000))]) (rest := []) ⟨hx, hb, hml, hown, hts⟩ (c_X6_in l ((year)) (0) (60000) (by decide) (by decide)) (va_cwS 3 hts gX6_borne_X6_in rfl rfl rfl (by decide +kernel) ⟨Nat.le_of_ble_eq_true rfl, Nat.le_of_ble_eq_true rfl⟩) pre_0 rfl rfl hl.1 rfl (lv_room (Nat.le_of_ble_eq_true rfl)) dX6_borne_11 ⟨Nat.zero_le _, Nat.zero_le _⟩) ?_
  refine lv_if_ne (tgt := 19) hx hb dX6_borne_14 (by decide) (fun c_14 => ?_) (fun c_14 => ?_)
  · have c_14 := if_p c_14
    refine lv_iconst (v := (nI (0))) hx hb dX6_borne_19 (by decide) ?_
    refine lv_istore_n (lv' := [(2, .int (nI (0))), (0, .ref (g.2.2 0)), (1, .int (year))]) hx hb dX6_borne_20 rfl hl (by decide) rfl (fun ls hl => ?_)
    refine lv_iconst (v := (nI (0))) hx hb dX6_borne_21 (by decide) ?_
    refine lv_istore_n (lv' := [(3, .int (nI (0))), (2, .int (nI (0))), (0, .ref (g.2.2 0)), (1, .int (year))]) hx hb dX6_borne_22 rfl hl (by decide) rfl (fun ls hl => ?_)
    have lp_23 : ∀ (n : Nat) (cu : Nat), (cu ≤ 4) → 4 - cu < n → ∀ (H : Heap) (locs : List Loc), va_P g.1 vwCl (wM g trace value draft (nI (L)) vocables letter long1 feet sort order left opn own other pick parts frm size isYear isNext ways nextWays) H → va_S (aW 19 g.2.2 s.heap.size) s.heap H locs → ∀ (ls : Array Slot), lv_has ls 5 [(0, .ref (g.2.2 0)), (1, .int (year)), (2, .int (bnc value draft L year cu)), (3, .int (nI (cu)))] → W p l e (headSpec wsX6_borne ({ frames := 5, cells := 0, slots := 0, locals := 113 })).room s m (([.ref (g.2.2 0), .int (year)] : List Value).toArray) below meth c H locs 0 0 (MQ below (va_Qi (fun (r : Int32) (z : Unit) => r = aBorne value draft L year) (fun (z : Unit) (t : State) => va_P g.1 vwCl (wM g trace value draft (nI (L)) vocables letter long1 feet sort order left opn own other pick parts frm size isYear isNext ways nextWays) t.heap) (aW 19 g.2.2 s.heap.size)) (([.ref (g.2.2 0), .int (year)] : List Value).toArray) s 0 0 (aW 19 g.2.2 s.heap.size)) (F0 m 23 ls []) := by
      intro n
      induction n with
      | zero => intro cu hc hm; exact absurd hm (Nat.not_lt_zero _)
      | succ n ih_23 =>
        intro cu hc hm_23 H locs hP hS ls hl
        refine lv_iload_n hx hb dX6_borne_23 rfl (lv_at hl 3 rfl) ?_
        refine lv_iconst (v := (nI (4))) hx hb dX6_borne_24 (by decide) ?_
        refine lv_icmp_ge (tgt := 75) hx hb dX6_borne_25 (by decide) (fun c_25 => ?_) (fun c_25 => ?_)
        · have c_25 := (cv_le_nn (by omega) (by omega)).mp c_25
          refine lv_iload_n hx hb dX6_borne_75 rfl (lv_at hl 2 rfl) ?_
          exact wr_iret () hx hb hr hlocks (by unfold aBorne; rw [if_pos (by omega), show 4 = cu by omega]) (fun t ht => show va_P g.1 vwCl (wM g trace value draft (nI (L)) vocables letter long1 feet sort order left opn own other pick parts frm size isYear isNext ways nextWays) t.heap by rw [ht]; exact hP) hS dX6_borne_76
        · have c_25 := (not_congr (cv_le_nn (by omega) (by omega))).mp c_25
          refine lv_iconst (v := (nI (0))) hx hb dX6_borne_28 (by decide) ?_
          refine lv_istore (lv' := [(4, .int (nI (0))), (0, .ref (g.2.2 0)), (1, .int (year)), (2, .int (bnc value draft L year cu)), (3, .int (nI (cu)))]) hx hb dX6_borne_29 hl (by decide) rfl (fun ls hl => ?_)
          have lp_31 : ∀ (n : Nat) (k : Nat), (k ≤ 3) → 3 - k < n → ∀ (H : Heap) (locs : List Loc), va_P g.1 vwCl (wM g trace value draft (nI (L)) vocables letter long1 feet sort order left opn own other pick parts frm size isYear isNext ways nextWays) H → va_S (aW 19 g.2.2 s.heap.size) s.heap H locs → ∀ (ls : Array Slot), lv_has ls 5 [(0, .ref (g.2.2 0)), (1, .int (year)), (2, .int (bn1 value draft L year cu (bnc value draft L year cu) k)), (3, .int (nI (cu))), (4, .int (nI (k)))] → W p l e (headSpec wsX6_borne ({ frames := 5, cells := 0, slots := 0, locals := 113 })).room s m (([.ref (g.2.2 0), .int (year)] : List Value).toArray) below meth c H locs 0 0 (MQ below (va_Qi (fun (r : Int32) (z : Unit) => r = aBorne value draft L year) (fun (z : Unit) (t : State) => va_P g.1 vwCl (wM g trace value draft (nI (L)) vocables letter long1 feet sort order left opn own other pick parts frm size isYear isNext ways nextWays) t.heap) (aW 19 g.2.2 s.heap.size)) (([.ref (g.2.2 0), .int (year)] : List Value).toArray) s 0 0 (aW 19 g.2.2 s.heap.size)) (F0 m 31 ls []) := by
            intro n
            induction n with
            | zero => intro k hk hm; exact absurd hm (Nat.not_lt_zero _)
            | succ n ih_31 =>
              intro k hk hm_31 H locs hP hS ls hl
              refine lv_iload hx hb dX6_borne_31 (lv_at hl 4 rfl) ?_
              refine lv_iconst (v := (nI (3))) hx hb dX6_borne_33 (by decide) ?_
              refine lv_icmp_ge (tgt := 69) hx hb dX6_borne_34 (by decide) (fun c_34 => ?_) (fun c_34 => ?_)
              · have c_34 := (cv_le_nn (by omega) (by omega)).mp c_34
                refine lv_iinc (v := (nI (cu + 1))) (lv' := [(3, .int (nI (cu + 1))), (0, .ref (g.2.2 0)), (1, .int (year)), (2, .int (bn1 value draft L year cu (bnc value draft L year cu) k)), (4, .int (nI (k)))]) hx hb dX6_borne_69 hl (k := 3) rfl (nI_add _ 1) (by decide) rfl (fun ls hl => ?_)
                refine lv_goto (tgt := 23) hx hb dX6_borne_72 (by decide) ?_
                rw [show k = 3 by omega] at hl
                exact ih_23 (cu + 1) (by omega) (by omega) _ _ hP hS ls (lv_sub hl [1, 2, 3, 0] rfl)
              · have c_34 := (not_congr (cv_le_nn (by omega) (by omega))).mp c_34
                refine lv_iload_n hx hb dX6_borne_37 rfl (lv_at hl 2 rfl) ?_
                refine lv_aload_n hx hb dX6_borne_38 rfl (lv_at hl 0 rfl) ?_
                refine lv_iload hx hb dX6_borne_39 (lv_at hl 4 rfl) ?_
                refine lv_iload_n hx hb dX6_borne_41 rfl (lv_at hl 3 rfl) ?_
                refine ro_call (va_runV (As := [.int (nI (k)), .int (nI (cu))]) (rest := [.int (bn1 value draft L year cu (bnc value draft L year cu) k)]) ⟨hx, hb, hml, hown, hts⟩ (c_X6_sumOf l (g := g) (trace := trace) (value := value) (draft := draft) (L := L) (vocables := vocables) (letter := letter) (long1 := long1) (feet := feet) (sort := sort) (order := order) (left := left) (opn := opn) (own := own) (other := other) (pick := pick) (parts := parts) (frm := frm) (size := size) (isYear := isYear) (isNext := isNext) (ways := ways) (nextWays := nextWays) (k) (cu) (by omega) (by omega) hL2) (cwV 2 hts gX6_borne_X6_sumOf rfl rfl rfl (by decide +kernel) ⟨Nat.le_of_ble_eq_true rfl, Nat.le_of_ble_eq_true rfl⟩) (pre_V pW_bl (va_recv hK hP (ci := 6) (q0 := 0) rfl rfl) (fun U hU hW => pW_of hP hK hN hU hW)) rfl rfl hl.1 rfl (lv_room (Nat.le_of_ble_eq_true rfl)) dX6_borne_42 ⟨Nat.zero_le _, Nat.zero_le _⟩) ?_
                refine lv_iload_n hx hb dX6_borne_45 rfl (lv_at hl 1 rfl) ?_
                refine lv_icmp_ne (tgt := 60) hx hb dX6_borne_46 (by decide) (fun c_46 => ?_) (fun c_46 => ?_)
                · have c_46 := (not_congr (cv_eq_ii )).mp c_46
                  refine lv_iconst (v := (nI (0))) hx hb dX6_borne_60 (by decide) ?_
                  refine lv_ior hx hb dX6_borne_61 ?_
                  refine ln_toi (y := (bn1 value draft L year cu (bnc value draft L year cu) k)) (or_0 _) ?_
                  refine lv_istore_n (lv' := [(2, .int (bn1 value draft L year cu (bnc value draft L year cu) k)), (0, .ref (g.2.2 0)), (1, .int (year)), (3, .int (nI (cu))), (4, .int (nI (k)))]) hx hb dX6_borne_62 rfl hl (by decide) rfl (fun ls hl => ?_)
                  refine lv_iinc (v := (nI (k + 1))) (lv' := [(4, .int (nI (k + 1))), (2, .int (bn1 value draft L year cu (bnc value draft L year cu) k)), (0, .ref (g.2.2 0)), (1, .int (year)), (3, .int (nI (cu)))]) hx hb dX6_borne_63 hl (k := 4) rfl (nI_add _ 1) (by decide) rfl (fun ls hl => ?_)
                  refine lv_goto (tgt := 31) hx hb dX6_borne_66 (by decide) ?_
                  rw [bn1_n c_46] at hl
                  exact ih_31 (k + 1) (by omega) (by omega) _ _ hP hS ls (lv_sub hl [2, 3, 1, 4, 0] rfl)
                · have c_46 := (cv_eq_ii ).mp c_46
                  refine lv_iconst (v := (nI (1))) hx hb dX6_borne_49 (by decide) ?_
                  refine lv_iconst (v := (nI (3))) hx hb dX6_borne_50 (by decide) ?_
                  refine lv_iload_n hx hb dX6_borne_51 rfl (lv_at hl 3 rfl) ?_
                  refine ln_imul hx hb dX6_borne_52 ?_
                  refine lv_iload hx hb dX6_borne_53 (lv_at hl 4 rfl) ?_
                  refine ln_iadd hx hb dX6_borne_55 ?_
                  refine lv_ishl hx hb dX6_borne_56 ?_
                  refine lv_goto (tgt := 61) hx hb dX6_borne_57 (by decide) ?_
                  refine lv_ior hx hb dX6_borne_61 ?_
                  refine lv_istore_n (lv' := [(2, .int ((bn1 value draft L year cu (bnc value draft L year cu) k) ||| ((nI (1)) <<< ((nI ((3 * cu) + k)) &&& 31)))), (0, .ref (g.2.2 0)), (1, .int (year)), (3, .int (nI (cu))), (4, .int (nI (k)))]) hx hb dX6_borne_62 rfl hl (by decide) rfl (fun ls hl => ?_)
                  refine lv_iinc (v := (nI (k + 1))) (lv' := [(4, .int (nI (k + 1))), (2, .int ((bn1 value draft L year cu (bnc value draft L year cu) k) ||| ((nI (1)) <<< ((nI ((3 * cu) + k)) &&& 31)))), (0, .ref (g.2.2 0)), (1, .int (year)), (3, .int (nI (cu)))]) hx hb dX6_borne_63 hl (k := 4) rfl (nI_add _ 1) (by decide) rfl (fun ls hl => ?_)
                  refine lv_goto (tgt := 31) hx hb dX6_borne_66 (by decide) ?_
                  rw [bn1_y c_46] at hl
                  exact ih_31 (k + 1) (by omega) (by omega) _ _ hP hS ls (lv_sub hl [2, 3, 1, 4, 0] rfl)
          exact lp_31 (3 - (0) + 1) 0 (Nat.zero_le _) (Nat.lt_succ_self _) _ _ hP hS ls (lv_sub hl [1, 2, 3, 4, 0] rfl)
    exact lp_23 (4 - (0) + 1) 0 (Nat.zero_le _) (Nat.lt_succ_self _) _ _ hP hS ls (lv_sub hl [2, 3, 1, 0] rfl)
  · have c_14 := if_n c_14
    refine lv_iconst (v := ((-1 : Int32))) hx hb dX6_borne_17 (by decide) ?_
    exact wr_iret () hx hb hr hlocks (by unfold aBorne; rw [if_neg (by omega)]) (fun t ht => show va_P g.1 vwCl (wM g trace value draft (nI (L)) vocables letter long1 feet sort order left opn own other pick parts frm size isYear isNext ways nextWays) t.heap by rw [ht]; exact hP) hS dX6_borne_18
