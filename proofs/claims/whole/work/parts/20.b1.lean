set_option maxHeartbeats 200000 in
set_option maxRecDepth 100000 in
theorem c_X5_isWithin (l : Launch) (number : Int32) (bound : Nat) (hb9 : bound < 2 ^ 31) : Met l yX5_isWithin wsX5_isWithin ({ frames := 0, cells := 0, slots := 0, locals := 0 }) (va_Pc ([.int (number), .int (nI (bound))]) (fun _ => True)) (ro_Q (.int (if 0 ≤ number.toInt ∧ number.toInt < ((bound : Nat) : Int) then 1 else 0))) 0 0 (fun _ => False) := by
  refine Met.ofW (cc := cX5_isWithin) (maxL := 2) (ret := (some .boolean)) (by decide) rfl ?_
  intro p e s m args below meth c s₁ B hml hv
  obtain ⟨rfl, -⟩ := hv
  have hx := B.exec
  have hb := B.bytes
  have hr := B.returns
  have hts := atoms_spec (ws := wsX5_isWithin) B.pre
  have hown : s.vm.findClass RX5 = some m.cls := findClass_of_methodNamed B.named
  have hlocks := B.notSynchronized
  have hl := lv_entry ([.int (number), .int (nI (bound))]) (n := 2) (Nat.le_of_ble_eq_true rfl)
  rw [lg_entry_eq]
  generalize (lg_sl ([.int (number), .int (nI (bound))]) ++ List.replicate (2 - (lg_sl ([.int (number), .int (nI (bound))])).length) Slot.unset).toArray = ls at hl ⊢
  have hl : lv_has ls 2 [(0, .int (number)), (1, .int (nI (bound)))] := hl
  refine lv_iload_n hx hb dX5_isWithin_0 rfl (lv_at hl 0 rfl) ?_
  refine lv_if_lt (tgt := 13) hx hb dX5_isWithin_1 (by decide) (fun c_1 => ?_) (fun c_1 => ?_)
  · have c_1 := (cz_lt_i).mp c_1
    refine lv_iconst (v := (nI (0))) hx hb dX5_isWithin_13 (by decide) ?_
    exact ro_zret hx hb hr hlocks (rfl) (zero_if (by first | omega | assumption)) dX5_isWithin_14
  · have c_1 := (not_congr (cz_lt_i)).mp c_1
    refine lv_iload_n hx hb dX5_isWithin_4 rfl (lv_at hl 0 rfl) ?_
    refine lv_iload_n hx hb dX5_isWithin_5 rfl (lv_at hl 1 rfl) ?_
    refine lv_icmp_ge (tgt := 13) hx hb dX5_isWithin_6 (by decide) (fun c_6 => ?_) (fun c_6 => ?_)
    · have c_6 := (cv_le_ni (by omega)).mp c_6
      refine lv_iconst (v := (nI (0))) hx hb dX5_isWithin_13 (by decide) ?_
      exact ro_zret hx hb hr hlocks (rfl) (zero_if (by first | omega | assumption)) dX5_isWithin_14
    · have c_6 := (not_congr (cv_le_ni (by omega))).mp c_6
      refine lv_iconst (v := (nI (1))) hx hb dX5_isWithin_9 (by decide) ?_
      refine lv_goto (tgt := 14) hx hb dX5_isWithin_10 (by decide) ?_
      exact ro_zret hx hb hr hlocks (rfl) (one_if (by first | omega | assumption)) dX5_isWithin_14
set_option maxHeartbeats 200000 in
set_option maxRecDepth 100000 in
theorem c_X5_isCustomary (l : Launch) (counting : Int32) (custom : Int32)  : Met l yX5_isCustomary wsX5_isCustomary ({ frames := 1, cells := 0, slots := 0, locals := 21 }) (va_Pc ([.int (counting), .int (custom)]) (fun _ => True)) (ro_Q (.int (if (0 ≤ counting.toInt ∧ counting.toInt < 3) ∧ (0 ≤ custom.toInt ∧ custom.toInt < 4) then 1 else 0))) 0 0 (fun _ => False) := by
  refine Met.ofW (cc := cX5_isCustomary) (maxL := 2) (ret := (some .boolean)) (by decide) rfl ?_
  intro p e s m args below meth c s₁ B hml hv
  obtain ⟨rfl, -⟩ := hv
  have hx := B.exec
  have hb := B.bytes
  have hr := B.returns
  have hts := atoms_spec (ws := wsX5_isCustomary) B.pre
  have hown : s.vm.findClass RX5 = some m.cls := findClass_of_methodNamed B.named
  have hlocks := B.notSynchronized
  have hl := lv_entry ([.int (counting), .int (custom)]) (n := 2) (Nat.le_of_ble_eq_true rfl)
  rw [lg_entry_eq]
  generalize (lg_sl ([.int (counting), .int (custom)]) ++ List.replicate (2 - (lg_sl ([.int (counting), .int (custom)])).length) Slot.unset).toArray = ls at hl ⊢
  have hl : lv_has ls 2 [(0, .int (counting)), (1, .int (custom))] := hl
  refine lv_iload_n hx hb dX5_isCustomary_0 rfl (lv_at hl 0 rfl) ?_
  refine lv_iconst (v := (nI (3))) hx hb dX5_isCustomary_1 (by decide) ?_
  refine ro_call (va_runS (As := [.int (counting), .int (nI (3))]) (rest := []) ⟨hx, hb, hml, hown, hts⟩ (c_X5_isWithin l (counting) (3) (by decide)) (va_cwS 2 hts gX5_isCustomary_X5_isWithin rfl rfl rfl (by decide +kernel) ⟨Nat.le_of_ble_eq_true rfl, Nat.le_of_ble_eq_true rfl⟩) pre_0 rfl rfl hl.1 rfl (lv_room (Nat.le_of_ble_eq_true rfl)) dX5_isCustomary_2 ⟨Nat.zero_le _, Nat.zero_le _⟩) ?_
  refine lv_if_eq (tgt := 20) hx hb dX5_isCustomary_5 (by decide) (fun c_5 => ?_) (fun c_5 => ?_)
  · have c_5 := if_n c_5
    refine lv_iconst (v := (nI (0))) hx hb dX5_isCustomary_20 (by decide) ?_
    exact ro_zret hx hb hr hlocks (rfl) (zero_if (by first | omega | assumption)) dX5_isCustomary_21
  · have c_5 := if_p c_5
    refine lv_iload_n hx hb dX5_isCustomary_8 rfl (lv_at hl 1 rfl) ?_
    refine lv_iconst (v := (nI (4))) hx hb dX5_isCustomary_9 (by decide) ?_
    refine ro_call (va_runS (As := [.int (custom), .int (nI (4))]) (rest := []) ⟨hx, hb, hml, hown, hts⟩ (c_X5_isWithin l (custom) (4) (by decide)) (va_cwS 2 hts gX5_isCustomary_X5_isWithin rfl rfl rfl (by decide +kernel) ⟨Nat.le_of_ble_eq_true rfl, Nat.le_of_ble_eq_true rfl⟩) pre_0 rfl rfl hl.1 rfl (lv_room (Nat.le_of_ble_eq_true rfl)) dX5_isCustomary_10 ⟨Nat.zero_le _, Nat.zero_le _⟩) ?_
    refine lv_if_eq (tgt := 20) hx hb dX5_isCustomary_13 (by decide) (fun c_13 => ?_) (fun c_13 => ?_)
    · have c_13 := if_n c_13
      refine lv_iconst (v := (nI (0))) hx hb dX5_isCustomary_20 (by decide) ?_
      exact ro_zret hx hb hr hlocks (rfl) (zero_if (by first | omega | assumption)) dX5_isCustomary_21
    · have c_13 := if_p c_13
      refine lv_iconst (v := (nI (1))) hx hb dX5_isCustomary_16 (by decide) ?_
      refine lv_goto (tgt := 21) hx hb dX5_isCustomary_17 (by decide) ?_
      exact ro_zret hx hb hr hlocks (rfl) (one_if (by first | omega | assumption)) dX5_isCustomary_21
set_option maxHeartbeats 200000 in
set_option maxRecDepth 100000 in
theorem c_X5_isLineAsked (l : Launch) (feet : Int32) (y : Int32) (counting : Int32) (custom : Int32)  : Met l yX5_isLineAsked wsX5_isLineAsked ({ frames := 2, cells := 0, slots := 0, locals := 42 }) (va_Pc ([.int (feet), .int (y), .int (counting), .int (custom)]) (fun _ => True)) (ro_Q (.int (if (1 ≤ feet.toInt ∧ feet.toInt ≤ 8) ∧ (0 ≤ y.toInt ∧ y.toInt ≤ 3000) ∧ (0 ≤ counting.toInt ∧ counting.toInt < 3) ∧ (0 ≤ custom.toInt ∧ custom.toInt < 4) then 1 else 0))) 0 0 (fun _ => False) := by
  refine Met.ofW (cc := cX5_isLineAsked) (maxL := 4) (ret := (some .boolean)) (by decide) rfl ?_
  intro p e s m args below meth c s₁ B hml hv
  obtain ⟨rfl, -⟩ := hv
  have hx := B.exec
  have hb := B.bytes
  have hr := B.returns
  have hts := atoms_spec (ws := wsX5_isLineAsked) B.pre
  have hown : s.vm.findClass RX5 = some m.cls := findClass_of_methodNamed B.named
  have hlocks := B.notSynchronized
  have hl := lv_entry ([.int (feet), .int (y), .int (counting), .int (custom)]) (n := 4) (Nat.le_of_ble_eq_true rfl)
  rw [lg_entry_eq]
  generalize (lg_sl ([.int (feet), .int (y), .int (counting), .int (custom)]) ++ List.replicate (4 - (lg_sl ([.int (feet), .int (y), .int (counting), .int (custom)])).length) Slot.unset).toArray = ls at hl ⊢
  have hl : lv_has ls 4 [(0, .int (feet)), (1, .int (y)), (2, .int (counting)), (3, .int (custom))] := hl
  refine lv_iload_n hx hb dX5_isLineAsked_0 rfl (lv_at hl 0 rfl) ?_
  refine lv_iconst (v := (nI (1))) hx hb dX5_isLineAsked_1 (by decide) ?_
  refine lv_icmp_lt (tgt := 33) hx hb dX5_isLineAsked_2 (by decide) (fun c_2 => ?_) (fun c_2 => ?_)
  · have c_2 := (cv_lt_in (by omega)).mp c_2
    refine lv_iconst (v := (nI (0))) hx hb dX5_isLineAsked_33 (by decide) ?_
    exact ro_zret hx hb hr hlocks (rfl) (zero_if (by first | omega | assumption)) dX5_isLineAsked_34
  · have c_2 := (not_congr (cv_lt_in (by omega))).mp c_2
    refine lv_iload_n hx hb dX5_isLineAsked_5 rfl (lv_at hl 0 rfl) ?_
    refine lv_bipush (v := (nI (8))) hx hb dX5_isLineAsked_6 (by decide) ?_
    refine lv_icmp_gt (tgt := 33) hx hb dX5_isLineAsked_8 (by decide) (fun c_8 => ?_) (fun c_8 => ?_)
    · have c_8 := (cv_lt_ni (by omega)).mp c_8
      refine lv_iconst (v := (nI (0))) hx hb dX5_isLineAsked_33 (by decide) ?_
      exact ro_zret hx hb hr hlocks (rfl) (zero_if (by first | omega | assumption)) dX5_isLineAsked_34
    · have c_8 := (not_congr (cv_lt_ni (by omega))).mp c_8
      refine lv_iload_n hx hb dX5_isLineAsked_11 rfl (lv_at hl 1 rfl) ?_
      refine lv_sipush (v := (nI (3001))) hx hb dX5_isLineAsked_12 (by decide) ?_
      refine ro_call (va_runS (As := [.int (y), .int (nI (3001))]) (rest := []) ⟨hx, hb, hml, hown, hts⟩ (c_X5_isWithin l (y) (3001) (by decide)) (va_cwS 2 hts gX5_isLineAsked_X5_isWithin rfl rfl rfl (by decide +kernel) ⟨Nat.le_of_ble_eq_true rfl, Nat.le_of_ble_eq_true rfl⟩) pre_0 rfl rfl hl.1 rfl (lv_room (Nat.le_of_ble_eq_true rfl)) dX5_isLineAsked_15 ⟨Nat.zero_le _, Nat.zero_le _⟩) ?_
      refine lv_if_eq (tgt := 33) hx hb dX5_isLineAsked_18 (by decide) (fun c_18 => ?_) (fun c_18 => ?_)
      · have c_18 := if_n c_18
        refine lv_iconst (v := (nI (0))) hx hb dX5_isLineAsked_33 (by decide) ?_
        exact ro_zret hx hb hr hlocks (rfl) (zero_if (by first | omega | assumption)) dX5_isLineAsked_34
      · have c_18 := if_p c_18
        refine lv_iload_n hx hb dX5_isLineAsked_21 rfl (lv_at hl 2 rfl) ?_
        refine lv_iload_n hx hb dX5_isLineAsked_22 rfl (lv_at hl 3 rfl) ?_
        refine ro_call (va_runS (As := [.int (counting), .int (custom)]) (rest := []) ⟨hx, hb, hml, hown, hts⟩ (c_X5_isCustomary l (counting) (custom)) (va_cwS 2 hts gX5_isLineAsked_X5_isCustomary rfl rfl rfl (by decide +kernel) ⟨Nat.le_of_ble_eq_true rfl, Nat.le_of_ble_eq_true rfl⟩) pre_0 rfl rfl hl.1 rfl (lv_room (Nat.le_of_ble_eq_true rfl)) dX5_isLineAsked_23 ⟨Nat.zero_le _, Nat.zero_le _⟩) ?_
        refine lv_if_eq (tgt := 33) hx hb dX5_isLineAsked_26 (by decide) (fun c_26 => ?_) (fun c_26 => ?_)
        · have c_26 := if_n c_26
          refine lv_iconst (v := (nI (0))) hx hb dX5_isLineAsked_33 (by decide) ?_
          exact ro_zret hx hb hr hlocks (rfl) (zero_if (by first | omega | assumption)) dX5_isLineAsked_34
        · have c_26 := if_p c_26
          refine lv_iconst (v := (nI (1))) hx hb dX5_isLineAsked_29 (by decide) ?_
          refine lv_goto (tgt := 34) hx hb dX5_isLineAsked_30 (by decide) ?_
          exact ro_zret hx hb hr hlocks (rfl) (one_if (by first | omega | assumption)) dX5_isLineAsked_34
set_option maxHeartbeats 200000 in
set_option maxRecDepth 100000 in
theorem c_X5_isCapital (l : Launch) (b : Int32)  : Met l yX5_isCapital wsX5_isCapital ({ frames := 0, cells := 0, slots := 0, locals := 0 }) (va_Pc ([.int (b)]) (fun _ => True)) (ro_Q (.int (if cap b then 1 else 0))) 0 0 (fun _ => False) := by
  refine Met.ofW (cc := cX5_isCapital) (maxL := 1) (ret := (some .boolean)) (by decide) rfl ?_
  intro p e s m args below meth c s₁ B hml hv
  obtain ⟨rfl, -⟩ := hv
  have hx := B.exec
  have hb := B.bytes
  have hr := B.returns
  have hts := atoms_spec (ws := wsX5_isCapital) B.pre
  have hown : s.vm.findClass RX5 = some m.cls := findClass_of_methodNamed B.named
  have hlocks := B.notSynchronized
  have hl := lv_entry ([.int (b)]) (n := 1) (Nat.le_of_ble_eq_true rfl)
  rw [lg_entry_eq]
  generalize (lg_sl ([.int (b)]) ++ List.replicate (1 - (lg_sl ([.int (b)])).length) Slot.unset).toArray = ls at hl ⊢
  have hl : lv_has ls 1 [(0, .int (b))] := hl
  refine lv_iload_n hx hb dX5_isCapital_0 rfl (lv_at hl 0 rfl) ?_
  refine lv_bipush (v := (nI (65))) hx hb dX5_isCapital_1 (by decide) ?_
  refine lv_icmp_lt (tgt := 16) hx hb dX5_isCapital_3 (by decide) (fun c_3 => ?_) (fun c_3 => ?_)
  · have c_3 := (cv_lt_in (by omega)).mp c_3
    refine lv_iconst (v := (nI (0))) hx hb dX5_isCapital_16 (by decide) ?_
    exact ro_zret hx hb hr hlocks (rfl) (zero_if (by first | omega | assumption)) dX5_isCapital_17
  · have c_3 := (not_congr (cv_lt_in (by omega))).mp c_3
    refine lv_iload_n hx hb dX5_isCapital_6 rfl (lv_at hl 0 rfl) ?_
    refine lv_bipush (v := (nI (90))) hx hb dX5_isCapital_7 (by decide) ?_
    refine lv_icmp_gt (tgt := 16) hx hb dX5_isCapital_9 (by decide) (fun c_9 => ?_) (fun c_9 => ?_)
    · have c_9 := (cv_lt_ni (by omega)).mp c_9
      refine lv_iconst (v := (nI (0))) hx hb dX5_isCapital_16 (by decide) ?_
      exact ro_zret hx hb hr hlocks (rfl) (zero_if (by first | omega | assumption)) dX5_isCapital_17
    · have c_9 := (not_congr (cv_lt_ni (by omega))).mp c_9
      refine lv_iconst (v := (nI (1))) hx hb dX5_isCapital_12 (by decide) ?_
      refine lv_goto (tgt := 17) hx hb dX5_isCapital_13 (by decide) ?_
      exact ro_zret hx hb hr hlocks (rfl) (one_if (by first | omega | assumption)) dX5_isCapital_17
set_option maxHeartbeats 200000 in
set_option maxRecDepth 100000 in
theorem c_X5_isLetter (l : Launch) (b : Int32)  : Met l yX5_isLetter wsX5_isLetter ({ frames := 1, cells := 0, slots := 0, locals := 20 }) (va_Pc ([.int (b)]) (fun _ => True)) (ro_Q (.int (if letr b then 1 else 0))) 0 0 (fun _ => False) := by
  refine Met.ofW (cc := cX5_isLetter) (maxL := 1) (ret := (some .boolean)) (by decide) rfl ?_
  intro p e s m args below meth c s₁ B hml hv
  obtain ⟨rfl, -⟩ := hv
  have hx := B.exec
  have hb := B.bytes
  have hr := B.returns
  have hts := atoms_spec (ws := wsX5_isLetter) B.pre
  have hown : s.vm.findClass RX5 = some m.cls := findClass_of_methodNamed B.named
  have hlocks := B.notSynchronized
  have hl := lv_entry ([.int (b)]) (n := 1) (Nat.le_of_ble_eq_true rfl)
  rw [lg_entry_eq]
  generalize (lg_sl ([.int (b)]) ++ List.replicate (1 - (lg_sl ([.int (b)])).length) Slot.unset).toArray = ls at hl ⊢
  have hl : lv_has ls 1 [(0, .int (b))] := hl
  refine lv_iload_n hx hb dX5_isLetter_0 rfl (lv_at hl 0 rfl) ?_
  refine ro_call (va_runS (As := [.int (b)]) (rest := []) ⟨hx, hb, hml, hown, hts⟩ (c_X5_isCapital l (b)) (va_cwS 1 hts gX5_isLetter_X5_isCapital rfl rfl rfl (by decide +kernel) ⟨Nat.le_of_ble_eq_true rfl, Nat.le_of_ble_eq_true rfl⟩) pre_0 rfl rfl hl.1 rfl (lv_room (Nat.le_of_ble_eq_true rfl)) dX5_isLetter_1 ⟨Nat.zero_le _, Nat.zero_le _⟩) ?_
  refine lv_if_ne (tgt := 19) hx hb dX5_isLetter_4 (by decide) (fun c_4 => ?_) (fun c_4 => ?_)
  · have c_4 := if_p c_4
    refine lv_iconst (v := (nI (1))) hx hb dX5_isLetter_19 (by decide) ?_
    refine lv_goto (tgt := 24) hx hb dX5_isLetter_20 (by decide) ?_
    exact ro_zret hx hb hr hlocks (rfl) (one_if (by first | omega | assumption)) dX5_isLetter_24
  · have c_4 := if_n c_4
    refine lv_iload_n hx hb dX5_isLetter_7 rfl (lv_at hl 0 rfl) ?_
    refine lv_bipush (v := (nI (97))) hx hb dX5_isLetter_8 (by decide) ?_
    refine lv_icmp_lt (tgt := 23) hx hb dX5_isLetter_10 (by decide) (fun c_10 => ?_) (fun c_10 => ?_)
    · have c_10 := (cv_lt_in (by omega)).mp c_10
      refine lv_iconst (v := (nI (0))) hx hb dX5_isLetter_23 (by decide) ?_
      exact ro_zret hx hb hr hlocks (rfl) (zero_if (by first | omega | assumption)) dX5_isLetter_24
    · have c_10 := (not_congr (cv_lt_in (by omega))).mp c_10
      refine lv_iload_n hx hb dX5_isLetter_13 rfl (lv_at hl 0 rfl) ?_
      refine lv_bipush (v := (nI (122))) hx hb dX5_isLetter_14 (by decide) ?_
      refine lv_icmp_gt (tgt := 23) hx hb dX5_isLetter_16 (by decide) (fun c_16 => ?_) (fun c_16 => ?_)
      · have c_16 := (cv_lt_ni (by omega)).mp c_16
        refine lv_iconst (v := (nI (0))) hx hb dX5_isLetter_23 (by decide) ?_
        exact ro_zret hx hb hr hlocks (rfl) (zero_if (by first | omega | assumption)) dX5_isLetter_24
      · have c_16 := (not_congr (cv_lt_ni (by omega))).mp c_16
        refine lv_iconst (v := (nI (1))) hx hb dX5_isLetter_19 (by decide) ?_
        refine lv_goto (tgt := 24) hx hb dX5_isLetter_20 (by decide) ?_
        exact ro_zret hx hb hr hlocks (rfl) (one_if (by first | omega | assumption)) dX5_isLetter_24
set_option maxHeartbeats 200000 in
set_option maxRecDepth 100000 in
theorem c_X5_byteOf (l : Launch) (v : Int64) (k : Nat) (hk : k < 8) : Met l yX5_byteOf wsX5_byteOf ({ frames := 0, cells := 0, slots := 0, locals := 0 }) (va_Pc ([.long (v), .int (nI (k))]) (fun _ => True)) (ro_Q (.int (nI (byt v k)))) 0 0 (fun _ => False) := by
  refine Met.ofW (cc := cX5_byteOf) (maxL := 3) (ret := (some .int)) (by decide) rfl ?_
  intro p e s m args below meth c s₁ B hml hv
  obtain ⟨rfl, -⟩ := hv
  have hx := B.exec
  have hb := B.bytes
  have hr := B.returns
  have hts := atoms_spec (ws := wsX5_byteOf) B.pre
  have hown : s.vm.findClass RX5 = some m.cls := findClass_of_methodNamed B.named
  have hlocks := B.notSynchronized
  have hl := lv_entry ([.long (v), .int (nI (k))]) (n := 3) (Nat.le_of_ble_eq_true rfl)
  rw [lg_entry_eq]
  generalize (lg_sl ([.long (v), .int (nI (k))]) ++ List.replicate (3 - (lg_sl ([.long (v), .int (nI (k))])).length) Slot.unset).toArray = ls at hl ⊢
  have hl : lv_has ls 3 [(0, .long (v)), (2, .int (nI (k)))] := hl
  refine lv_lload_n hx hb dX5_byteOf_0 rfl (lv_at hl 0 rfl) ?_
  refine lv_bipush (v := (nI (8))) hx hb dX5_byteOf_1 (by decide) ?_
  refine lv_iload_n hx hb dX5_byteOf_3 rfl (lv_at hl 1 rfl) ?_
  refine ln_imul hx hb dX5_byteOf_4 ?_
  refine lv_lushr hx hb dX5_byteOf_5 rfl ?_
  refine lv_l2i hx hb dX5_byteOf_6 rfl ?_
  refine lv_sipush (v := (nI (255))) hx hb dX5_byteOf_7 (by decide) ?_
  refine lv_iand hx hb dX5_byteOf_10 ?_
  refine ln_toi (y := (nI (byt v k))) (byt_x v hk) ?_
  exact ro_iret hx hb hr hlocks (rfl) dX5_byteOf_11
set_option maxHeartbeats 200000 in
set_option maxRecDepth 100000 in
theorem c_X5_mayAllStand (l : Launch) (v : Int64) (k0 : Nat) (hk : k0 ≤ 8) : Met l yX5_mayAllStand wsX5_mayAllStand ({ frames := 2, cells := 0, slots := 0, locals := 40 }) (va_Pc ([.long (v), .int (nI (k0))]) (fun _ => True)) (ro_Q (.int (if (∀ k, k < k0 → okb (byt v k)) then 1 else 0))) 0 0 (fun _ => False) := by
  refine Met.ofW (cc := cX5_mayAllStand) (maxL := 5) (ret := (some .boolean)) (by decide) rfl ?_
  intro p e s m args below meth c s₁ B hml hv
  obtain ⟨rfl, -⟩ := hv
  have hx := B.exec
  have hb := B.bytes
  have hr := B.returns
  have hts := atoms_spec (ws := wsX5_mayAllStand) B.pre
  have hown : s.vm.findClass RX5 = some m.cls := findClass_of_methodNamed B.named
  have hlocks := B.notSynchronized
  have hl := lv_entry ([.long (v), .int (nI (k0))]) (n := 5) (Nat.le_of_ble_eq_true rfl)
  rw [lg_entry_eq]
  generalize (lg_sl ([.long (v), .int (nI (k0))]) ++ List.replicate (5 - (lg_sl ([.long (v), .int (nI (k0))])).length) Slot.unset).toArray = ls at hl ⊢
  have hl : lv_has ls 5 [(0, .long (v)), (2, .int (nI (k0)))] := hl
  refine lv_iconst (v := (nI (0))) hx hb dX5_mayAllStand_0 (by decide) ?_
  refine lv_istore_n (lv' := [(3, .int (nI (0))), (0, .long (v)), (2, .int (nI (k0)))]) hx hb dX5_mayAllStand_1 rfl hl (by decide) rfl (fun ls hl => ?_)
  have lp_2 : ∀ (n : Nat) (i : Nat), (i ≤ k0) → (∀ j, j < i → okb (byt v j)) → k0 - i < n → ∀ (ls : Array Slot), lv_has ls 5 [(0, .long (v)), (2, .int (nI (k0))), (3, .int (nI (i)))] → W p l e (headSpec wsX5_mayAllStand ({ frames := 2, cells := 0, slots := 0, locals := 40 })).room s m (([.long (v), .int (nI (k0))] : List Value).toArray) below meth c s.heap [] 0 0 (MQ below (ro_Q (.int (if (∀ k, k < k0 → okb (byt v k)) then 1 else 0))) (([.long (v), .int (nI (k0))] : List Value).toArray) s 0 0 (fun _ => False)) (F0 m 2 ls []) := by
    intro n
    induction n with
    | zero => intro i hi ho hm; exact absurd hm (Nat.not_lt_zero _)
    | succ n ih_2 =>
      intro i hi ho hm_2 ls hl
      refine lv_iload_n hx hb dX5_mayAllStand_2 rfl (lv_at hl 2 rfl) ?_
      refine lv_iload_n hx hb dX5_mayAllStand_3 rfl (lv_at hl 1 rfl) ?_
      refine lv_icmp_ge (tgt := 44) hx hb dX5_mayAllStand_4 (by decide) (fun c_4 => ?_) (fun c_4 => ?_)
      · have c_4 := (cv_le_nn (by omega) (by omega)).mp c_4
        refine lv_iconst (v := (nI (1))) hx hb dX5_mayAllStand_44 (by decide) ?_
        exact ro_zret hx hb hr hlocks (rfl) (one_if (fun k hk => ho k (by omega))) dX5_mayAllStand_45
      · have c_4 := (not_congr (cv_le_nn (by omega) (by omega))).mp c_4
        refine lv_lload_n hx hb dX5_mayAllStand_7 rfl (lv_at hl 0 rfl) ?_
        refine lv_iload_n hx hb dX5_mayAllStand_8 rfl (lv_at hl 2 rfl) ?_
        refine ro_call (va_runS (As := [.long (v), .int (nI (i))]) (rest := []) ⟨hx, hb, hml, hown, hts⟩ (c_X5_byteOf l (v) (i) (by omega)) (va_cwS 2 hts gX5_mayAllStand_X5_byteOf rfl rfl rfl (by decide +kernel) ⟨Nat.le_of_ble_eq_true rfl, Nat.le_of_ble_eq_true rfl⟩) pre_0 rfl rfl hl.1 rfl (lv_room (Nat.le_of_ble_eq_true rfl)) dX5_mayAllStand_9 ⟨Nat.zero_le _, Nat.zero_le _⟩) ?_
        refine lv_istore (lv' := [(4, .int (nI (byt (v) (i)))), (0, .long (v)), (2, .int (nI (k0))), (3, .int (nI (i)))]) hx hb dX5_mayAllStand_12 hl (by decide) rfl (fun ls hl => ?_)
        have hby : byt v i < 256 := byt_lt v i
        have hbt : (nI (byt v i)).toInt = ((byt v i : Nat) : Int) := nI_toInt (by omega)
        refine lv_iload hx hb dX5_mayAllStand_14 (lv_at hl 0 rfl) ?_
        refine lv_bipush (v := (nI (32))) hx hb dX5_mayAllStand_16 (by decide) ?_
        refine lv_icmp_eq (tgt := 38) hx hb dX5_mayAllStand_18 (by decide) (fun c_18 => ?_) (fun c_18 => ?_)
        · have c_18 := (cv_eq_nn (by omega) (by omega)).mp c_18
          refine lv_iinc (v := (nI (i + 1))) (lv' := [(3, .int (nI (i + 1))), (4, .int (nI (byt (v) (i)))), (0, .long (v)), (2, .int (nI (k0)))]) hx hb dX5_mayAllStand_38 hl (k := 3) rfl (nI_add _ 1) (by decide) rfl (fun ls hl => ?_)
          refine lv_goto (tgt := 2) hx hb dX5_mayAllStand_41 (by decide) ?_
          exact ih_2 (i + 1) (by omega) (lt_s ho (by omega)) (by omega) ls (lv_sub hl [2, 3, 0] rfl)
        · have c_18 := (not_congr (cv_eq_nn (by omega) (by omega))).mp c_18
          refine lv_iload hx hb dX5_mayAllStand_21 (lv_at hl 0 rfl) ?_
          refine lv_bipush (v := (nI (63))) hx hb dX5_mayAllStand_23 (by decide) ?_
          refine lv_icmp_eq (tgt := 38) hx hb dX5_mayAllStand_25 (by decide) (fun c_25 => ?_) (fun c_25 => ?_)
          · have c_25 := (cv_eq_nn (by omega) (by omega)).mp c_25
            refine lv_iinc (v := (nI (i + 1))) (lv' := [(3, .int (nI (i + 1))), (4, .int (nI (byt (v) (i)))), (0, .long (v)), (2, .int (nI (k0)))]) hx hb dX5_mayAllStand_38 hl (k := 3) rfl (nI_add _ 1) (by decide) rfl (fun ls hl => ?_)
            refine lv_goto (tgt := 2) hx hb dX5_mayAllStand_41 (by decide) ?_
            exact ih_2 (i + 1) (by omega) (lt_s ho (by omega)) (by omega) ls (lv_sub hl [2, 3, 0] rfl)
          · have c_25 := (not_congr (cv_eq_nn (by omega) (by omega))).mp c_25
            refine lv_iload hx hb dX5_mayAllStand_28 (lv_at hl 0 rfl) ?_
            refine ro_call (va_runS (As := [.int (nI (byt (v) (i)))]) (rest := []) ⟨hx, hb, hml, hown, hts⟩ (c_X5_isLetter l (nI (byt (v) (i)))) (va_cwS 1 hts gX5_mayAllStand_X5_isLetter rfl rfl rfl (by decide +kernel) ⟨Nat.le_of_ble_eq_true rfl, Nat.le_of_ble_eq_true rfl⟩) pre_0 rfl rfl hl.1 rfl (lv_room (Nat.le_of_ble_eq_true rfl)) dX5_mayAllStand_30 ⟨Nat.zero_le _, Nat.zero_le _⟩) ?_
            refine lv_if_ne (tgt := 38) hx hb dX5_mayAllStand_33 (by decide) (fun c_33 => ?_) (fun c_33 => ?_)
            · have c_33 := if_p c_33
              refine lv_iinc (v := (nI (i + 1))) (lv' := [(3, .int (nI (i + 1))), (4, .int (nI (byt (v) (i)))), (0, .long (v)), (2, .int (nI (k0)))]) hx hb dX5_mayAllStand_38 hl (k := 3) rfl (nI_add _ 1) (by decide) rfl (fun ls hl => ?_)
              refine lv_goto (tgt := 2) hx hb dX5_mayAllStand_41 (by decide) ?_
              exact ih_2 (i + 1) (by omega) (lt_s ho (by omega)) (by omega) ls (lv_sub hl [2, 3, 0] rfl)
            · have c_33 := if_n c_33
              refine lv_iconst (v := (nI (0))) hx hb dX5_mayAllStand_36 (by decide) ?_
              exact ro_zret hx hb hr hlocks (rfl) (zero_if (fun q => absurd (q i (by omega)) (by omega))) dX5_mayAllStand_37
  exact lp_2 (k0 - (0) + 1) 0 (Nat.zero_le _) (fun j hj => absurd hj (Nat.not_lt_zero j)) (Nat.lt_succ_self _) ls (lv_sub hl [1, 2, 0] rfl)
theorem iw_X0_worthOf_X0 : ∀ w ∈ u_ws RX0 TX0 1, w ∈ wsX0_worthOf := by decide +kernel
theorem fl_X0_worthOf_9 : Cond.fieldLink RX0 9 (TX0 0).1 (TX0 0).2.1 (TX0 0).2.2.1 ∈ wsX0_worthOf := by decide +kernel
set_option maxHeartbeats 200000 in
set_option maxRecDepth 100000 in
theorem c_X0_worthOf (l : Launch) {g : GW} {asked : Int64} {values : Nat → Int32} {bytes : Nat → Int32} {starts : Nat → Int32} {ends : Nat → Int32} {length : Int32} {parts : Int32} {texts : Nat → Int32} {lengths : Nat → Int32} {feet : Nat → Int32} {sorts : Nat → Int32} {nxt : Nat → Int32} {size : Int32} {sums : Nat → Int32} {oneSums : Nat → Int32} {otherSums : Nat → Int32} {byFeet : Nat → Int64} {kept : Nat → Int64} {over : Int32} {rcount : Int32} {rcust : Int32} {ssums : Nat → Int32} {ways : Nat → Int64} {nextWays : Nat → Int64} {reached : Nat → Int64} {nextReached : Nat → Int64} {found : Int32} {least : Int32} {greatest : Int32} (counting : Nat) (custom : Nat) (letter : Int32) (ahead : Int32) (hc : counting < 3) (hk : custom < 4) : Met l yX0_worthOf wsX0_worthOf ({ frames := 2, cells := 0, slots := 0, locals := 40 }) (va_Pc ([.ref (g.2.2 1), .int (nI (counting)), .int (nI (custom)), .int (letter), .int (ahead)]) (pW g (wX g asked values bytes starts ends length parts texts lengths feet sorts nxt size sums oneSums otherSums byFeet kept over rcount rcust ssums ways nextWays reached nextReached found least greatest))) (ro_Q (.int (wv values counting custom letter ahead))) 0 0 (fun _ => False) := by
  refine Met.ofW (cc := cX0_worthOf) (maxL := 5) (ret := (some .int)) (by decide) rfl ?_
  intro p e s m args below meth c s₁ B hml hv
  obtain ⟨rfl, hP, hK, hN⟩ := hv
  have hx := B.exec
  have hb := B.bytes
  have hr := B.returns
  have hts := atoms_spec (ws := wsX0_worthOf) B.pre
  have hown : s.vm.findClass RX0 = some m.cls := findClass_of_methodNamed B.named
  have hlocks := B.notSynchronized
  have hl := lv_entry ([.ref (g.2.2 1), .int (nI (counting)), .int (nI (custom)), .int (letter), .int (ahead)]) (n := 5) (Nat.le_of_ble_eq_true rfl)
  rw [lg_entry_eq]
  generalize (lg_sl ([.ref (g.2.2 1), .int (nI (counting)), .int (nI (custom)), .int (letter), .int (ahead)]) ++ List.replicate (5 - (lg_sl ([.ref (g.2.2 1), .int (nI (counting)), .int (nI (custom)), .int (letter), .int (ahead)])).length) Slot.unset).toArray = ls at hl ⊢
  have hl : lv_has ls 5 [(0, .ref (g.2.2 1)), (1, .int (nI (counting))), (2, .int (nI (custom))), (3, .int (letter)), (4, .int (ahead))] := hl
  refine lv_iload_n hx hb dX0_worthOf_0 rfl (lv_at hl 3 rfl) ?_
  refine ro_call (va_runSN (As := [.int (letter)]) (rest := []) ⟨hx, hb, hml, hown, hts⟩ (c_X5_isLetter l (letter)) ⟨va_cnB 1 hts gX0_worthOf_X5_isLetter_n24 rfl rfl rfl hN.1 (hts (.initialized RX5) (by decide +kernel)) (by decide +kernel) ⟨Nat.le_of_ble_eq_true rfl, Nat.le_of_ble_eq_true rfl⟩, hts (.static yX5_isLetter) (by decide +kernel), trivial⟩ pre_0 rfl rfl hl.1 rfl (lv_room (Nat.le_of_ble_eq_true rfl)) dX0_worthOf_1 ⟨Nat.zero_le _, Nat.zero_le _⟩) ?_
  refine lv_if_ne (tgt := 9) hx hb dX0_worthOf_4 (by decide) (fun c_4 => ?_) (fun c_4 => ?_)
  · have c_4 := if_p c_4
    refine lv_iload_n hx hb dX0_worthOf_9 rfl (lv_at hl 1 rfl) ?_
    refine lv_iconst (v := (nI (1))) hx hb dX0_worthOf_10 (by decide) ?_
    refine lv_icmp_lt (tgt := 23) hx hb dX0_worthOf_11 (by decide) (fun c_11 => ?_) (fun c_11 => ?_)
    · have c_11 := (cv_lt_nn (by omega) (by omega)).mp c_11
      refine lv_iload_n hx hb dX0_worthOf_23 rfl (lv_at hl 1 rfl) ?_
      refine lv_iconst (v := (nI (2))) hx hb dX0_worthOf_24 (by decide) ?_
      refine lv_icmp_lt (tgt := 36) hx hb dX0_worthOf_25 (by decide) (fun c_25 => ?_) (fun c_25 => ?_)
      · have c_25 := (cv_lt_nn (by omega) (by omega)).mp c_25
        obtain ⟨j, hj, hje⟩ := iN_of (x := letter) (b := 123) (by omega) (by omega)
        subst hje
        have hjt : (nI j).toInt = (j : Int) := nI_toInt (by omega)
        refine lv_aload_n hx hb dX0_worthOf_36 rfl (lv_at hl 0 rfl) ?_
        refine an_get (ci := 0) (v := .ref (g.2.2 2)) (C := RX0) (T := TX0) (N := 1) hx hb hts iw_X0_worthOf_X0 hown hK hP 1 rfl rfl 0 (by decide) (hts _ fl_X0_worthOf_9) rfl dX0_worthOf_37 ?_
        refine lv_iload_n hx hb dX0_worthOf_40 rfl (lv_at hl 2 rfl) ?_
        refine lv_bipush (v := (nI (26))) hx hb dX0_worthOf_41 (by decide) ?_
        refine ln_imul hx hb dX0_worthOf_43 ?_
        refine lv_iload_n hx hb dX0_worthOf_44 rfl (lv_at hl 3 rfl) ?_
        refine ln_iadd hx hb dX0_worthOf_45 ?_
        refine lv_iload_n hx hb dX0_worthOf_46 rfl (lv_at hl 3 rfl) ?_
        refine ro_call (va_runSN (As := [.int (nI (j))]) (rest := [.int (nI ((custom * 26) + j)), .ref (g.2.2 2)]) ⟨hx, hb, hml, hown, hts⟩ (c_X5_isCapital l (nI (j))) ⟨va_cnB 1 hts gX0_worthOf_X5_isCapital_n28 rfl rfl rfl hN.2.1 (hts (.initialized RX5) (by decide +kernel)) (by decide +kernel) ⟨Nat.le_of_ble_eq_true rfl, Nat.le_of_ble_eq_true rfl⟩, hts (.static yX5_isCapital) (by decide +kernel), trivial⟩ pre_0 rfl rfl hl.1 rfl (lv_room (Nat.le_of_ble_eq_true rfl)) dX0_worthOf_47 ⟨Nat.zero_le _, Nat.zero_le _⟩) ?_
        refine lv_if_eq (tgt := 58) hx hb dX0_worthOf_50 (by decide) (fun c_50 => ?_) (fun c_50 => ?_)
        · have c_50 := if_n c_50
          refine lv_bipush (v := (nI (97))) hx hb dX0_worthOf_58 (by decide) ?_
          refine ln_isub hx hb (by omega) dX0_worthOf_60 ?_
          refine an_iald (f := values) hx hb hK hP 2 0 rfl rfl (by decide) (by omega) dX0_worthOf_61 ?_
          exact ro_iret hx hb hr hlocks (wv_l hj (by omega) (by omega) (by omega)) dX0_worthOf_62
        · have c_50 := if_p c_50
          refine lv_bipush (v := (nI (65))) hx hb dX0_worthOf_53 (by decide) ?_
          refine lv_goto (tgt := 60) hx hb dX0_worthOf_55 (by decide) ?_
          refine ln_isub hx hb (by omega) dX0_worthOf_60 ?_
          refine an_iald (f := values) hx hb hK hP 2 0 rfl rfl (by decide) (by omega) dX0_worthOf_61 ?_
          exact ro_iret hx hb hr hlocks (wv_c hj (by omega) (by omega)) dX0_worthOf_62
      · have c_25 := (not_congr (cv_lt_nn (by omega) (by omega))).mp c_25
        refine lv_iload_n hx hb dX0_worthOf_28 rfl (lv_at hl 3 rfl) ?_
        refine lv_iload hx hb dX0_worthOf_29 (lv_at hl 4 rfl) ?_
        refine lv_icmp_ne (tgt := 36) hx hb dX0_worthOf_31 (by decide) (fun c_31 => ?_) (fun c_31 => ?_)
        · have c_31 := (not_congr (cv_eq_ii )).mp c_31
          obtain ⟨j, hj, hje⟩ := iN_of (x := letter) (b := 123) (by omega) (by omega)
          subst hje
          have hjt : (nI j).toInt = (j : Int) := nI_toInt (by omega)
          refine lv_aload_n hx hb dX0_worthOf_36 rfl (lv_at hl 0 rfl) ?_
          refine an_get (ci := 0) (v := .ref (g.2.2 2)) (C := RX0) (T := TX0) (N := 1) hx hb hts iw_X0_worthOf_X0 hown hK hP 1 rfl rfl 0 (by decide) (hts _ fl_X0_worthOf_9) rfl dX0_worthOf_37 ?_
          refine lv_iload_n hx hb dX0_worthOf_40 rfl (lv_at hl 2 rfl) ?_
          refine lv_bipush (v := (nI (26))) hx hb dX0_worthOf_41 (by decide) ?_
          refine ln_imul hx hb dX0_worthOf_43 ?_
          refine lv_iload_n hx hb dX0_worthOf_44 rfl (lv_at hl 3 rfl) ?_
          refine ln_iadd hx hb dX0_worthOf_45 ?_
          refine lv_iload_n hx hb dX0_worthOf_46 rfl (lv_at hl 3 rfl) ?_
          refine ro_call (va_runSN (As := [.int (nI (j))]) (rest := [.int (nI ((custom * 26) + j)), .ref (g.2.2 2)]) ⟨hx, hb, hml, hown, hts⟩ (c_X5_isCapital l (nI (j))) ⟨va_cnB 1 hts gX0_worthOf_X5_isCapital_n28 rfl rfl rfl hN.2.1 (hts (.initialized RX5) (by decide +kernel)) (by decide +kernel) ⟨Nat.le_of_ble_eq_true rfl, Nat.le_of_ble_eq_true rfl⟩, hts (.static yX5_isCapital) (by decide +kernel), trivial⟩ pre_0 rfl rfl hl.1 rfl (lv_room (Nat.le_of_ble_eq_true rfl)) dX0_worthOf_47 ⟨Nat.zero_le _, Nat.zero_le _⟩) ?_
          refine lv_if_eq (tgt := 58) hx hb dX0_worthOf_50 (by decide) (fun c_50 => ?_) (fun c_50 => ?_)
          · have c_50 := if_n c_50
            refine lv_bipush (v := (nI (97))) hx hb dX0_worthOf_58 (by decide) ?_
            refine ln_isub hx hb (by omega) dX0_worthOf_60 ?_
            refine an_iald (f := values) hx hb hK hP 2 0 rfl rfl (by decide) (by omega) dX0_worthOf_61 ?_
            exact ro_iret hx hb hr hlocks (wv_l hj (by omega) (by omega) (by omega)) dX0_worthOf_62
          · have c_50 := if_p c_50
            refine lv_bipush (v := (nI (65))) hx hb dX0_worthOf_53 (by decide) ?_
            refine lv_goto (tgt := 60) hx hb dX0_worthOf_55 (by decide) ?_
            refine ln_isub hx hb (by omega) dX0_worthOf_60 ?_
            refine an_iald (f := values) hx hb hK hP 2 0 rfl rfl (by decide) (by omega) dX0_worthOf_61 ?_
            exact ro_iret hx hb hr hlocks (wv_c hj (by omega) (by omega)) dX0_worthOf_62
        · have c_31 := (cv_eq_ii ).mp c_31
          refine lv_iconst (v := (nI (0))) hx hb dX0_worthOf_34 (by decide) ?_
          exact ro_iret hx hb hr hlocks (wv_0 (by omega)) dX0_worthOf_35
    · have c_11 := (not_congr (cv_lt_nn (by omega) (by omega))).mp c_11
      refine lv_iload_n hx hb dX0_worthOf_14 rfl (lv_at hl 3 rfl) ?_
      refine ro_call (va_runSN (As := [.int (letter)]) (rest := []) ⟨hx, hb, hml, hown, hts⟩ (c_X5_isCapital l (letter)) ⟨va_cnB 1 hts gX0_worthOf_X5_isCapital_n28 rfl rfl rfl hN.2.1 (hts (.initialized RX5) (by decide +kernel)) (by decide +kernel) ⟨Nat.le_of_ble_eq_true rfl, Nat.le_of_ble_eq_true rfl⟩, hts (.static yX5_isCapital) (by decide +kernel), trivial⟩ pre_0 rfl rfl hl.1 rfl (lv_room (Nat.le_of_ble_eq_true rfl)) dX0_worthOf_15 ⟨Nat.zero_le _, Nat.zero_le _⟩) ?_
      refine lv_if_ne (tgt := 23) hx hb dX0_worthOf_18 (by decide) (fun c_18 => ?_) (fun c_18 => ?_)
      · have c_18 := if_p c_18
        refine lv_iload_n hx hb dX0_worthOf_23 rfl (lv_at hl 1 rfl) ?_
        refine lv_iconst (v := (nI (2))) hx hb dX0_worthOf_24 (by decide) ?_
        refine lv_icmp_lt (tgt := 36) hx hb dX0_worthOf_25 (by decide) (fun c_25 => ?_) (fun c_25 => ?_)
        · have c_25 := (cv_lt_nn (by omega) (by omega)).mp c_25
          obtain ⟨j, hj, hje⟩ := iN_of (x := letter) (b := 123) (by omega) (by omega)
          subst hje
          have hjt : (nI j).toInt = (j : Int) := nI_toInt (by omega)
          refine lv_aload_n hx hb dX0_worthOf_36 rfl (lv_at hl 0 rfl) ?_
          refine an_get (ci := 0) (v := .ref (g.2.2 2)) (C := RX0) (T := TX0) (N := 1) hx hb hts iw_X0_worthOf_X0 hown hK hP 1 rfl rfl 0 (by decide) (hts _ fl_X0_worthOf_9) rfl dX0_worthOf_37 ?_
          refine lv_iload_n hx hb dX0_worthOf_40 rfl (lv_at hl 2 rfl) ?_
          refine lv_bipush (v := (nI (26))) hx hb dX0_worthOf_41 (by decide) ?_
          refine ln_imul hx hb dX0_worthOf_43 ?_
          refine lv_iload_n hx hb dX0_worthOf_44 rfl (lv_at hl 3 rfl) ?_
          refine ln_iadd hx hb dX0_worthOf_45 ?_
          refine lv_iload_n hx hb dX0_worthOf_46 rfl (lv_at hl 3 rfl) ?_
          refine ro_call (va_runSN (As := [.int (nI (j))]) (rest := [.int (nI ((custom * 26) + j)), .ref (g.2.2 2)]) ⟨hx, hb, hml, hown, hts⟩ (c_X5_isCapital l (nI (j))) ⟨va_cnB 1 hts gX0_worthOf_X5_isCapital_n28 rfl rfl rfl hN.2.1 (hts (.initialized RX5) (by decide +kernel)) (by decide +kernel) ⟨Nat.le_of_ble_eq_true rfl, Nat.le_of_ble_eq_true rfl⟩, hts (.static yX5_isCapital) (by decide +kernel), trivial⟩ pre_0 rfl rfl hl.1 rfl (lv_room (Nat.le_of_ble_eq_true rfl)) dX0_worthOf_47 ⟨Nat.zero_le _, Nat.zero_le _⟩) ?_
          refine lv_if_eq (tgt := 58) hx hb dX0_worthOf_50 (by decide) (fun c_50 => ?_) (fun c_50 => ?_)
          · have c_50 := if_n c_50
            refine lv_bipush (v := (nI (97))) hx hb dX0_worthOf_58 (by decide) ?_
            refine ln_isub hx hb (by omega) dX0_worthOf_60 ?_
            refine an_iald (f := values) hx hb hK hP 2 0 rfl rfl (by decide) (by omega) dX0_worthOf_61 ?_
            exact ro_iret hx hb hr hlocks (wv_l hj (by omega) (by omega) (by omega)) dX0_worthOf_62
          · have c_50 := if_p c_50
            refine lv_bipush (v := (nI (65))) hx hb dX0_worthOf_53 (by decide) ?_
            refine lv_goto (tgt := 60) hx hb dX0_worthOf_55 (by decide) ?_
            refine ln_isub hx hb (by omega) dX0_worthOf_60 ?_
            refine an_iald (f := values) hx hb hK hP 2 0 rfl rfl (by decide) (by omega) dX0_worthOf_61 ?_
            exact ro_iret hx hb hr hlocks (wv_c hj (by omega) (by omega)) dX0_worthOf_62
        · have c_25 := (not_congr (cv_lt_nn (by omega) (by omega))).mp c_25
          refine lv_iload_n hx hb dX0_worthOf_28 rfl (lv_at hl 3 rfl) ?_
          refine lv_iload hx hb dX0_worthOf_29 (lv_at hl 4 rfl) ?_
          refine lv_icmp_ne (tgt := 36) hx hb dX0_worthOf_31 (by decide) (fun c_31 => ?_) (fun c_31 => ?_)
          · have c_31 := (not_congr (cv_eq_ii )).mp c_31
            obtain ⟨j, hj, hje⟩ := iN_of (x := letter) (b := 123) (by omega) (by omega)
            subst hje
            have hjt : (nI j).toInt = (j : Int) := nI_toInt (by omega)
            refine lv_aload_n hx hb dX0_worthOf_36 rfl (lv_at hl 0 rfl) ?_
            refine an_get (ci := 0) (v := .ref (g.2.2 2)) (C := RX0) (T := TX0) (N := 1) hx hb hts iw_X0_worthOf_X0 hown hK hP 1 rfl rfl 0 (by decide) (hts _ fl_X0_worthOf_9) rfl dX0_worthOf_37 ?_
            refine lv_iload_n hx hb dX0_worthOf_40 rfl (lv_at hl 2 rfl) ?_
            refine lv_bipush (v := (nI (26))) hx hb dX0_worthOf_41 (by decide) ?_
            refine ln_imul hx hb dX0_worthOf_43 ?_
            refine lv_iload_n hx hb dX0_worthOf_44 rfl (lv_at hl 3 rfl) ?_
            refine ln_iadd hx hb dX0_worthOf_45 ?_
            refine lv_iload_n hx hb dX0_worthOf_46 rfl (lv_at hl 3 rfl) ?_
            refine ro_call (va_runSN (As := [.int (nI (j))]) (rest := [.int (nI ((custom * 26) + j)), .ref (g.2.2 2)]) ⟨hx, hb, hml, hown, hts⟩ (c_X5_isCapital l (nI (j))) ⟨va_cnB 1 hts gX0_worthOf_X5_isCapital_n28 rfl rfl rfl hN.2.1 (hts (.initialized RX5) (by decide +kernel)) (by decide +kernel) ⟨Nat.le_of_ble_eq_true rfl, Nat.le_of_ble_eq_true rfl⟩, hts (.static yX5_isCapital) (by decide +kernel), trivial⟩ pre_0 rfl rfl hl.1 rfl (lv_room (Nat.le_of_ble_eq_true rfl)) dX0_worthOf_47 ⟨Nat.zero_le _, Nat.zero_le _⟩) ?_
            refine lv_if_eq (tgt := 58) hx hb dX0_worthOf_50 (by decide) (fun c_50 => ?_) (fun c_50 => ?_)
            · have c_50 := if_n c_50
              refine lv_bipush (v := (nI (97))) hx hb dX0_worthOf_58 (by decide) ?_
              refine ln_isub hx hb (by omega) dX0_worthOf_60 ?_
              refine an_iald (f := values) hx hb hK hP 2 0 rfl rfl (by decide) (by omega) dX0_worthOf_61 ?_
              exact ro_iret hx hb hr hlocks (wv_l hj (by omega) (by omega) (by omega)) dX0_worthOf_62
            · have c_50 := if_p c_50
              refine lv_bipush (v := (nI (65))) hx hb dX0_worthOf_53 (by decide) ?_
              refine lv_goto (tgt := 60) hx hb dX0_worthOf_55 (by decide) ?_
              refine ln_isub hx hb (by omega) dX0_worthOf_60 ?_
              refine an_iald (f := values) hx hb hK hP 2 0 rfl rfl (by decide) (by omega) dX0_worthOf_61 ?_
              exact ro_iret hx hb hr hlocks (wv_c hj (by omega) (by omega)) dX0_worthOf_62
          · have c_31 := (cv_eq_ii ).mp c_31
            refine lv_iconst (v := (nI (0))) hx hb dX0_worthOf_34 (by decide) ?_
            exact ro_iret hx hb hr hlocks (wv_0 (by omega)) dX0_worthOf_35
      · have c_18 := if_n c_18
        refine lv_iconst (v := (nI (0))) hx hb dX0_worthOf_21 (by decide) ?_
        exact ro_iret hx hb hr hlocks (wv_0 (by omega)) dX0_worthOf_22
  · have c_4 := if_n c_4
    refine lv_iconst (v := (nI (0))) hx hb dX0_worthOf_7 (by decide) ?_
    exact ro_iret hx hb hr hlocks (wv_0 (by omega)) dX0_worthOf_8
set_option maxHeartbeats 200000 in
set_option maxRecDepth 100000 in
theorem c_X0_sumOf_bytes (l : Launch) {g : GW} {asked : Int64} {values : Nat → Int32} {bytes : Nat → Int32} {starts : Nat → Int32} {ends : Nat → Int32} {length : Int32} {parts : Int32} {texts : Nat → Int32} {lengths : Nat → Int32} {feet : Nat → Int32} {sorts : Nat → Int32} {nxt : Nat → Int32} {size : Int32} {sums : Nat → Int32} {oneSums : Nat → Int32} {otherSums : Nat → Int32} {byFeet : Nat → Int64} {kept : Nat → Int64} {over : Int32} {rcount : Int32} {rcust : Int32} {ssums : Nat → Int32} {ways : Nat → Int64} {nextWays : Nat → Int64} {reached : Nat → Int64} {nextReached : Nat → Int64} {found : Int32} {least : Int32} {greatest : Int32} (counting : Nat) (custom : Nat) (fr : Nat) (to : Nat) (hc : counting < 3) (hk : custom < 4) (hf : fr ≤ to) (ht : to ≤ 40) : Met l yX0_sumOf wsX0_sumOf ({ frames := 3, cells := 0, slots := 0, locals := 64 }) (va_Pc ([.ref (g.2.2 1), .int (nI (counting)), .int (nI (custom)), .ref (g.2.2 4), .int (nI (fr)), .int (nI (to))]) (pW g (wX g asked values bytes starts ends length parts texts lengths feet sorts nxt size sums oneSums otherSums byFeet kept over rcount rcust ssums ways nextWays reached nextReached found least greatest))) (ro_Q (.int (smv values counting custom bytes fr (to - fr)))) 0 0 (fun _ => False) := by
  refine Met.ofW (cc := cX0_sumOf) (maxL := 9) (ret := (some .int)) (by decide) rfl ?_
  intro p e s m args below meth c s₁ B hml hv
  obtain ⟨rfl, hP, hK, hN⟩ := hv
  have hx := B.exec
  have hb := B.bytes
  have hr := B.returns
  have hts := atoms_spec (ws := wsX0_sumOf) B.pre
  have hown : s.vm.findClass RX0 = some m.cls := findClass_of_methodNamed B.named
  have hlocks := B.notSynchronized
  have hl := lv_entry ([.ref (g.2.2 1), .int (nI (counting)), .int (nI (custom)), .ref (g.2.2 4), .int (nI (fr)), .int (nI (to))]) (n := 9) (Nat.le_of_ble_eq_true rfl)
  rw [lg_entry_eq]
  generalize (lg_sl ([.ref (g.2.2 1), .int (nI (counting)), .int (nI (custom)), .ref (g.2.2 4), .int (nI (fr)), .int (nI (to))]) ++ List.replicate (9 - (lg_sl ([.ref (g.2.2 1), .int (nI (counting)), .int (nI (custom)), .ref (g.2.2 4), .int (nI (fr)), .int (nI (to))])).length) Slot.unset).toArray = ls at hl ⊢
  have hl : lv_has ls 9 [(0, .ref (g.2.2 1)), (1, .int (nI (counting))), (2, .int (nI (custom))), (3, .ref (g.2.2 4)), (4, .int (nI (fr))), (5, .int (nI (to)))] := hl
  refine lv_iconst (v := (nI (0))) hx hb dX0_sumOf_0 (by decide) ?_
  refine lv_istore (lv' := [(6, .int (nI (0))), (0, .ref (g.2.2 1)), (1, .int (nI (counting))), (2, .int (nI (custom))), (3, .ref (g.2.2 4)), (4, .int (nI (fr))), (5, .int (nI (to)))]) hx hb dX0_sumOf_1 hl (by decide) rfl (fun ls hl => ?_)
  refine lv_bipush (v := (nI (32))) hx hb dX0_sumOf_3 (by decide) ?_
  refine lv_istore (lv' := [(7, .int (nI (32))), (6, .int (nI (0))), (0, .ref (g.2.2 1)), (1, .int (nI (counting))), (2, .int (nI (custom))), (3, .ref (g.2.2 4)), (4, .int (nI (fr))), (5, .int (nI (to)))]) hx hb dX0_sumOf_5 hl (by decide) rfl (fun ls hl => ?_)
  refine lv_iload hx hb dX0_sumOf_7 (lv_at hl 6 rfl) ?_
  refine lv_istore (lv' := [(8, .int (nI (fr))), (7, .int (nI (32))), (6, .int (nI (0))), (0, .ref (g.2.2 1)), (1, .int (nI (counting))), (2, .int (nI (custom))), (3, .ref (g.2.2 4)), (4, .int (nI (fr))), (5, .int (nI (to)))]) hx hb dX0_sumOf_9 hl (by decide) rfl (fun ls hl => ?_)
  have lp_11 : ∀ (n : Nat) (i : Nat), (fr + i ≤ to) → to - fr - i < n → ∀ (ls : Array Slot), lv_has ls 9 [(0, .ref (g.2.2 1)), (1, .int (nI (counting))), (2, .int (nI (custom))), (3, .ref (g.2.2 4)), (4, .int (nI (fr))), (5, .int (nI (to))), (6, .int (smv values counting custom bytes fr i)), (7, .int (ahd bytes fr i)), (8, .int (nI (fr + i)))] → W p l e (headSpec wsX0_sumOf ({ frames := 3, cells := 0, slots := 0, locals := 64 })).room s m (([.ref (g.2.2 1), .int (nI (counting)), .int (nI (custom)), .ref (g.2.2 4), .int (nI (fr)), .int (nI (to))] : List Value).toArray) below meth c s.heap [] 0 0 (MQ below (ro_Q (.int (smv values counting custom bytes fr (to - fr)))) (([.ref (g.2.2 1), .int (nI (counting)), .int (nI (custom)), .ref (g.2.2 4), .int (nI (fr)), .int (nI (to))] : List Value).toArray) s 0 0 (fun _ => False)) (F0 m 11 ls []) := by
    intro n
    induction n with
    | zero => intro i hi hm; exact absurd hm (Nat.not_lt_zero _)
    | succ n ih_11 =>
      intro i hi hm_11 ls hl
      refine lv_iload hx hb dX0_sumOf_11 (lv_at hl 8 rfl) ?_
      refine lv_iload hx hb dX0_sumOf_13 (lv_at hl 5 rfl) ?_
      refine lv_icmp_ge (tgt := 47) hx hb dX0_sumOf_15 (by decide) (fun c_15 => ?_) (fun c_15 => ?_)
      · have c_15 := (cv_le_nn (by omega) (by omega)).mp c_15
        refine lv_iload hx hb dX0_sumOf_47 (lv_at hl 6 rfl) ?_
        exact ro_iret hx hb hr hlocks (by rw [show to - fr = i by omega]) dX0_sumOf_49
      · have c_15 := (not_congr (cv_le_nn (by omega) (by omega))).mp c_15
        refine lv_iload hx hb dX0_sumOf_18 (lv_at hl 6 rfl) ?_
        refine lv_aload_n hx hb dX0_sumOf_20 rfl (lv_at hl 0 rfl) ?_
        refine lv_iload_n hx hb dX0_sumOf_21 rfl (lv_at hl 1 rfl) ?_
        refine lv_iload_n hx hb dX0_sumOf_22 rfl (lv_at hl 2 rfl) ?_
        refine lv_aload_n hx hb dX0_sumOf_23 rfl (lv_at hl 3 rfl) ?_
        refine lv_iload hx hb dX0_sumOf_24 (lv_at hl 8 rfl) ?_
        refine an_iald (f := bytes) hx hb hK hP 4 0 rfl rfl (by decide) (by omega) dX0_sumOf_26 ?_
        refine lv_iload hx hb dX0_sumOf_27 (lv_at hl 7 rfl) ?_
        refine ro_call (va_runV (As := [.int (nI (counting)), .int (nI (custom)), .int (bytes (fr + i)), .int (ahd bytes fr i)]) (rest := [.int (smv values counting custom bytes fr i)]) ⟨hx, hb, hml, hown, hts⟩ (c_X0_worthOf l (g := g) (asked := asked) (values := values) (bytes := bytes) (starts := starts) (ends := ends) (length := length) (parts := parts) (texts := texts) (lengths := lengths) (feet := feet) (sorts := sorts) (nxt := nxt) (size := size) (sums := sums) (oneSums := oneSums) (otherSums := otherSums) (byFeet := byFeet) (kept := kept) (over := over) (rcount := rcount) (rcust := rcust) (ssums := ssums) (ways := ways) (nextWays := nextWays) (reached := reached) (nextReached := nextReached) (found := found) (least := least) (greatest := greatest) (counting) (custom) (bytes (fr + i)) (ahd bytes fr i) hc hk) (cwV 4 hts gX0_sumOf_X0_worthOf rfl rfl rfl (by decide +kernel) ⟨Nat.le_of_ble_eq_true rfl, Nat.le_of_ble_eq_true rfl⟩) (pre_V pW_bl (va_recv hK hP (ci := 0) (q0 := 1) rfl rfl) (fun U hU hW => pW_of hP hK hN hU hW)) rfl rfl hl.1 rfl (lv_room (Nat.le_of_ble_eq_true rfl)) dX0_sumOf_29 ⟨Nat.zero_le _, Nat.zero_le _⟩) ?_
        refine lv_iadd hx hb dX0_sumOf_32 ?_
        refine lv_istore (lv' := [(6, .int ((smv values counting custom bytes fr i) + (wv values (counting) (custom) (bytes (fr + i)) (ahd bytes fr i)))), (0, .ref (g.2.2 1)), (1, .int (nI (counting))), (2, .int (nI (custom))), (3, .ref (g.2.2 4)), (4, .int (nI (fr))), (5, .int (nI (to))), (7, .int (ahd bytes fr i)), (8, .int (nI (fr + i)))]) hx hb dX0_sumOf_33 hl (by decide) rfl (fun ls hl => ?_)
        refine lv_aload_n hx hb dX0_sumOf_35 rfl (lv_at hl 4 rfl) ?_
        refine lv_iload hx hb dX0_sumOf_36 (lv_at hl 8 rfl) ?_
        refine an_iald (f := bytes) hx hb hK hP 4 0 rfl rfl (by decide) (by omega) dX0_sumOf_38 ?_
        refine lv_istore (lv' := [(7, .int (bytes (fr + i))), (6, .int ((smv values counting custom bytes fr i) + (wv values (counting) (custom) (bytes (fr + i)) (ahd bytes fr i)))), (0, .ref (g.2.2 1)), (1, .int (nI (counting))), (2, .int (nI (custom))), (3, .ref (g.2.2 4)), (4, .int (nI (fr))), (5, .int (nI (to))), (8, .int (nI (fr + i)))]) hx hb dX0_sumOf_39 hl (by decide) rfl (fun ls hl => ?_)
        refine lv_iinc (v := (nI ((fr + i) + 1))) (lv' := [(8, .int (nI ((fr + i) + 1))), (7, .int (bytes (fr + i))), (6, .int ((smv values counting custom bytes fr i) + (wv values (counting) (custom) (bytes (fr + i)) (ahd bytes fr i)))), (0, .ref (g.2.2 1)), (1, .int (nI (counting))), (2, .int (nI (custom))), (3, .ref (g.2.2 4)), (4, .int (nI (fr))), (5, .int (nI (to)))]) hx hb dX0_sumOf_41 hl (k := 8) rfl (nI_add _ 1) (by decide) rfl (fun ls hl => ?_)
        refine lv_goto (tgt := 11) hx hb dX0_sumOf_44 (by decide) ?_
        exact ih_11 (i + 1) (by omega) (by omega) ls (lv_sub hl [3, 4, 5, 6, 7, 8, 2, 1, 0] rfl)
  exact lp_11 (to - fr - (0) + 1) 0 (by omega) (Nat.lt_succ_self _) ls (lv_sub hl [3, 4, 5, 6, 7, 8, 2, 1, 0] rfl)
set_option maxHeartbeats 200000 in
set_option maxRecDepth 100000 in
theorem c_X0_sumOf_texts (l : Launch) {g : GW} {asked : Int64} {values : Nat → Int32} {bytes : Nat → Int32} {starts : Nat → Int32} {ends : Nat → Int32} {length : Int32} {parts : Int32} {texts : Nat → Int32} {lengths : Nat → Int32} {feet : Nat → Int32} {sorts : Nat → Int32} {nxt : Nat → Int32} {size : Int32} {sums : Nat → Int32} {oneSums : Nat → Int32} {otherSums : Nat → Int32} {byFeet : Nat → Int64} {kept : Nat → Int64} {over : Int32} {rcount : Int32} {rcust : Int32} {ssums : Nat → Int32} {ways : Nat → Int64} {nextWays : Nat → Int64} {reached : Nat → Int64} {nextReached : Nat → Int64} {found : Int32} {least : Int32} {greatest : Int32} (counting : Nat) (custom : Nat) (fr : Nat) (to : Nat) (hc : counting < 3) (hk : custom < 4) (hf : fr ≤ to) (ht : to ≤ 80) : Met l yX0_sumOf wsX0_sumOf ({ frames := 3, cells := 0, slots := 0, locals := 64 }) (va_Pc ([.ref (g.2.2 1), .int (nI (counting)), .int (nI (custom)), .ref (g.2.2 8), .int (nI (fr)), .int (nI (to))]) (pW g (wX g asked values bytes starts ends length parts texts lengths feet sorts nxt size sums oneSums otherSums byFeet kept over rcount rcust ssums ways nextWays reached nextReached found least greatest))) (ro_Q (.int (smv values counting custom texts fr (to - fr)))) 0 0 (fun _ => False) := by
  refine Met.ofW (cc := cX0_sumOf) (maxL := 9) (ret := (some .int)) (by decide) rfl ?_
  intro p e s m args below meth c s₁ B hml hv
  obtain ⟨rfl, hP, hK, hN⟩ := hv
  have hx := B.exec
  have hb := B.bytes
  have hr := B.returns
  have hts := atoms_spec (ws := wsX0_sumOf) B.pre
  have hown : s.vm.findClass RX0 = some m.cls := findClass_of_methodNamed B.named
  have hlocks := B.notSynchronized
  have hl := lv_entry ([.ref (g.2.2 1), .int (nI (counting)), .int (nI (custom)), .ref (g.2.2 8), .int (nI (fr)), .int (nI (to))]) (n := 9) (Nat.le_of_ble_eq_true rfl)
  rw [lg_entry_eq]
  generalize (lg_sl ([.ref (g.2.2 1), .int (nI (counting)), .int (nI (custom)), .ref (g.2.2 8), .int (nI (fr)), .int (nI (to))]) ++ List.replicate (9 - (lg_sl ([.ref (g.2.2 1), .int (nI (counting)), .int (nI (custom)), .ref (g.2.2 8), .int (nI (fr)), .int (nI (to))])).length) Slot.unset).toArray = ls at hl ⊢
  have hl : lv_has ls 9 [(0, .ref (g.2.2 1)), (1, .int (nI (counting))), (2, .int (nI (custom))), (3, .ref (g.2.2 8)), (4, .int (nI (fr))), (5, .int (nI (to)))] := hl
  refine lv_iconst (v := (nI (0))) hx hb dX0_sumOf_0 (by decide) ?_
  refine lv_istore (lv' := [(6, .int (nI (0))), (0, .ref (g.2.2 1)), (1, .int (nI (counting))), (2, .int (nI (custom))), (3, .ref (g.2.2 8)), (4, .int (nI (fr))), (5, .int (nI (to)))]) hx hb dX0_sumOf_1 hl (by decide) rfl (fun ls hl => ?_)
  refine lv_bipush (v := (nI (32))) hx hb dX0_sumOf_3 (by decide) ?_
  refine lv_istore (lv' := [(7, .int (nI (32))), (6, .int (nI (0))), (0, .ref (g.2.2 1)), (1, .int (nI (counting))), (2, .int (nI (custom))), (3, .ref (g.2.2 8)), (4, .int (nI (fr))), (5, .int (nI (to)))]) hx hb dX0_sumOf_5 hl (by decide) rfl (fun ls hl => ?_)
  refine lv_iload hx hb dX0_sumOf_7 (lv_at hl 6 rfl) ?_
  refine lv_istore (lv' := [(8, .int (nI (fr))), (7, .int (nI (32))), (6, .int (nI (0))), (0, .ref (g.2.2 1)), (1, .int (nI (counting))), (2, .int (nI (custom))), (3, .ref (g.2.2 8)), (4, .int (nI (fr))), (5, .int (nI (to)))]) hx hb dX0_sumOf_9 hl (by decide) rfl (fun ls hl => ?_)
  have lp_11 : ∀ (n : Nat) (i : Nat), (fr + i ≤ to) → to - fr - i < n → ∀ (ls : Array Slot), lv_has ls 9 [(0, .ref (g.2.2 1)), (1, .int (nI (counting))), (2, .int (nI (custom))), (3, .ref (g.2.2 8)), (4, .int (nI (fr))), (5, .int (nI (to))), (6, .int (smv values counting custom texts fr i)), (7, .int (ahd texts fr i)), (8, .int (nI (fr + i)))] → W p l e (headSpec wsX0_sumOf ({ frames := 3, cells := 0, slots := 0, locals := 64 })).room s m (([.ref (g.2.2 1), .int (nI (counting)), .int (nI (custom)), .ref (g.2.2 8), .int (nI (fr)), .int (nI (to))] : List Value).toArray) below meth c s.heap [] 0 0 (MQ below (ro_Q (.int (smv values counting custom texts fr (to - fr)))) (([.ref (g.2.2 1), .int (nI (counting)), .int (nI (custom)), .ref (g.2.2 8), .int (nI (fr)), .int (nI (to))] : List Value).toArray) s 0 0 (fun _ => False)) (F0 m 11 ls []) := by
    intro n
    induction n with
    | zero => intro i hi hm; exact absurd hm (Nat.not_lt_zero _)
    | succ n ih_11 =>
      intro i hi hm_11 ls hl
      refine lv_iload hx hb dX0_sumOf_11 (lv_at hl 8 rfl) ?_
      refine lv_iload hx hb dX0_sumOf_13 (lv_at hl 5 rfl) ?_
      refine lv_icmp_ge (tgt := 47) hx hb dX0_sumOf_15 (by decide) (fun c_15 => ?_) (fun c_15 => ?_)
      · have c_15 := (cv_le_nn (by omega) (by omega)).mp c_15
        refine lv_iload hx hb dX0_sumOf_47 (lv_at hl 6 rfl) ?_
        exact ro_iret hx hb hr hlocks (by rw [show to - fr = i by omega]) dX0_sumOf_49
      · have c_15 := (not_congr (cv_le_nn (by omega) (by omega))).mp c_15
        refine lv_iload hx hb dX0_sumOf_18 (lv_at hl 6 rfl) ?_
        refine lv_aload_n hx hb dX0_sumOf_20 rfl (lv_at hl 0 rfl) ?_
        refine lv_iload_n hx hb dX0_sumOf_21 rfl (lv_at hl 1 rfl) ?_
        refine lv_iload_n hx hb dX0_sumOf_22 rfl (lv_at hl 2 rfl) ?_
        refine lv_aload_n hx hb dX0_sumOf_23 rfl (lv_at hl 3 rfl) ?_
        refine lv_iload hx hb dX0_sumOf_24 (lv_at hl 8 rfl) ?_
        refine an_iald (f := texts) hx hb hK hP 8 0 rfl rfl (by decide) (by omega) dX0_sumOf_26 ?_
        refine lv_iload hx hb dX0_sumOf_27 (lv_at hl 7 rfl) ?_
        refine ro_call (va_runV (As := [.int (nI (counting)), .int (nI (custom)), .int (texts (fr + i)), .int (ahd texts fr i)]) (rest := [.int (smv values counting custom texts fr i)]) ⟨hx, hb, hml, hown, hts⟩ (c_X0_worthOf l (g := g) (asked := asked) (values := values) (bytes := bytes) (starts := starts) (ends := ends) (length := length) (parts := parts) (texts := texts) (lengths := lengths) (feet := feet) (sorts := sorts) (nxt := nxt) (size := size) (sums := sums) (oneSums := oneSums) (otherSums := otherSums) (byFeet := byFeet) (kept := kept) (over := over) (rcount := rcount) (rcust := rcust) (ssums := ssums) (ways := ways) (nextWays := nextWays) (reached := reached) (nextReached := nextReached) (found := found) (least := least) (greatest := greatest) (counting) (custom) (texts (fr + i)) (ahd texts fr i) hc hk) (cwV 4 hts gX0_sumOf_X0_worthOf rfl rfl rfl (by decide +kernel) ⟨Nat.le_of_ble_eq_true rfl, Nat.le_of_ble_eq_true rfl⟩) (pre_V pW_bl (va_recv hK hP (ci := 0) (q0 := 1) rfl rfl) (fun U hU hW => pW_of hP hK hN hU hW)) rfl rfl hl.1 rfl (lv_room (Nat.le_of_ble_eq_true rfl)) dX0_sumOf_29 ⟨Nat.zero_le _, Nat.zero_le _⟩) ?_
        refine lv_iadd hx hb dX0_sumOf_32 ?_
        refine lv_istore (lv' := [(6, .int ((smv values counting custom texts fr i) + (wv values (counting) (custom) (texts (fr + i)) (ahd texts fr i)))), (0, .ref (g.2.2 1)), (1, .int (nI (counting))), (2, .int (nI (custom))), (3, .ref (g.2.2 8)), (4, .int (nI (fr))), (5, .int (nI (to))), (7, .int (ahd texts fr i)), (8, .int (nI (fr + i)))]) hx hb dX0_sumOf_33 hl (by decide) rfl (fun ls hl => ?_)
        refine lv_aload_n hx hb dX0_sumOf_35 rfl (lv_at hl 4 rfl) ?_
        refine lv_iload hx hb dX0_sumOf_36 (lv_at hl 8 rfl) ?_
        refine an_iald (f := texts) hx hb hK hP 8 0 rfl rfl (by decide) (by omega) dX0_sumOf_38 ?_
        refine lv_istore (lv' := [(7, .int (texts (fr + i))), (6, .int ((smv values counting custom texts fr i) + (wv values (counting) (custom) (texts (fr + i)) (ahd texts fr i)))), (0, .ref (g.2.2 1)), (1, .int (nI (counting))), (2, .int (nI (custom))), (3, .ref (g.2.2 8)), (4, .int (nI (fr))), (5, .int (nI (to))), (8, .int (nI (fr + i)))]) hx hb dX0_sumOf_39 hl (by decide) rfl (fun ls hl => ?_)
        refine lv_iinc (v := (nI ((fr + i) + 1))) (lv' := [(8, .int (nI ((fr + i) + 1))), (7, .int (texts (fr + i))), (6, .int ((smv values counting custom texts fr i) + (wv values (counting) (custom) (texts (fr + i)) (ahd texts fr i)))), (0, .ref (g.2.2 1)), (1, .int (nI (counting))), (2, .int (nI (custom))), (3, .ref (g.2.2 8)), (4, .int (nI (fr))), (5, .int (nI (to)))]) hx hb dX0_sumOf_41 hl (k := 8) rfl (nI_add _ 1) (by decide) rfl (fun ls hl => ?_)
        refine lv_goto (tgt := 11) hx hb dX0_sumOf_44 (by decide) ?_
        exact ih_11 (i + 1) (by omega) (by omega) ls (lv_sub hl [3, 4, 5, 6, 7, 8, 2, 1, 0] rfl)
  exact lp_11 (to - fr - (0) + 1) 0 (by omega) (Nat.lt_succ_self _) ls (lv_sub hl [3, 4, 5, 6, 7, 8, 2, 1, 0] rfl)
