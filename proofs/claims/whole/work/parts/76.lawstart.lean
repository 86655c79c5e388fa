theorem arr_K {args : Array Value} {s : State} {ty : FieldType} (h : (Cond.arrayClass ty).before args s = true) (hnr : ∀ k, s.vm.findClass ("[" ++ ty.toString) = some k → va_RA s k ty) : ∃ cA : ClassId, ArrOfT s cA ty ∧ va_RA s cA ty := by
  obtain ⟨k, kA, comp, h1, h2, h3⟩ := Cond.arrayClass_spec h
  exact ⟨k, fun _ _ => ⟨fun _ h => (by cases h), kA, h2, comp, h3⟩, hnr k h1⟩
set_option maxRecDepth 100000 in
set_option maxHeartbeats 1000000 in
theorem st_FIRST_VALUES {s : State} {b : Nat} (hgv : (Jvm.Cond.and given_1 narrow_1).before #[Value.ref b] s = true) (hts0 : ∀ w ∈ lw_tbl, w.before #[Value.ref b] s = true) : stA "FIRST_VALUES" 26 (fun j => .int (tF j)) (fun q => s.heap.size ≤ q) s := by
  have hs := flat_of_before _ hgv
  have hA : ∀ q : Nat, q < s.heap.size → ¬ (fun q => s.heap.size ≤ q) q := fun q h => Nat.not_le.mpr h
  have hel : ∀ j : Nat, j < 26 → (Term.elem (.static "VerseYears" "FIRST_VALUES" "[I") (.int (Int32.ofNat j))).eval #[Value.ref b] s none [] s = some ((fun j => .int (tF j)) j) := by
    intro j hj
    rcases (show j = 0 ∨ j = 1 ∨ j = 2 ∨ j = 3 ∨ j = 4 ∨ j = 5 ∨ j = 6 ∨ j = 7 ∨ j = 8 ∨ j = 9 ∨ j = 10 ∨ j = 11 ∨ j = 12 ∨ j = 13 ∨ j = 14 ∨ j = 15 ∨ j = 16 ∨ j = 17 ∨ j = 18 ∨ j = 19 ∨ j = 20 ∨ j = 21 ∨ j = 22 ∨ j = 23 ∨ j = 24 ∨ j = 25 by omega) with rfl | rfl | rfl | rfl | rfl | rfl | rfl | rfl | rfl | rfl | rfl | rfl | rfl | rfl | rfl | rfl | rfl | rfl | rfl | rfl | rfl | rfl | rfl | rfl | rfl | rfl
    · exact va_eqt (hs (.eq (.elem (.static "VerseYears" "FIRST_VALUES" "[I") (.int 0)) (.int 0)) (by decide +kernel))
    · exact va_eqt (hs (.eq (.elem (.static "VerseYears" "FIRST_VALUES" "[I") (.int 1)) (.int 0)) (by decide +kernel))
    · exact va_eqt (hs (.eq (.elem (.static "VerseYears" "FIRST_VALUES" "[I") (.int 2)) (.int 100)) (by decide +kernel))
    · exact va_eqt (hs (.eq (.elem (.static "VerseYears" "FIRST_VALUES" "[I") (.int 3)) (.int 500)) (by decide +kernel))
    · exact va_eqt (hs (.eq (.elem (.static "VerseYears" "FIRST_VALUES" "[I") (.int 4)) (.int 0)) (by decide +kernel))
    · exact va_eqt (hs (.eq (.elem (.static "VerseYears" "FIRST_VALUES" "[I") (.int 5)) (.int 0)) (by decide +kernel))
    · exact va_eqt (hs (.eq (.elem (.static "VerseYears" "FIRST_VALUES" "[I") (.int 6)) (.int 0)) (by decide +kernel))
    · exact va_eqt (hs (.eq (.elem (.static "VerseYears" "FIRST_VALUES" "[I") (.int 7)) (.int 0)) (by decide +kernel))
    · exact va_eqt (hs (.eq (.elem (.static "VerseYears" "FIRST_VALUES" "[I") (.int 8)) (.int 1)) (by decide +kernel))
    · exact va_eqt (hs (.eq (.elem (.static "VerseYears" "FIRST_VALUES" "[I") (.int 9)) (.int 0)) (by decide +kernel))
    · exact va_eqt (hs (.eq (.elem (.static "VerseYears" "FIRST_VALUES" "[I") (.int 10)) (.int 0)) (by decide +kernel))
    · exact va_eqt (hs (.eq (.elem (.static "VerseYears" "FIRST_VALUES" "[I") (.int 11)) (.int 50)) (by decide +kernel))
    · exact va_eqt (hs (.eq (.elem (.static "VerseYears" "FIRST_VALUES" "[I") (.int 12)) (.int 1000)) (by decide +kernel))
    · exact va_eqt (hs (.eq (.elem (.static "VerseYears" "FIRST_VALUES" "[I") (.int 13)) (.int 0)) (by decide +kernel))
    · exact va_eqt (hs (.eq (.elem (.static "VerseYears" "FIRST_VALUES" "[I") (.int 14)) (.int 0)) (by decide +kernel))
    · exact va_eqt (hs (.eq (.elem (.static "VerseYears" "FIRST_VALUES" "[I") (.int 15)) (.int 0)) (by decide +kernel))
    · exact va_eqt (hs (.eq (.elem (.static "VerseYears" "FIRST_VALUES" "[I") (.int 16)) (.int 0)) (by decide +kernel))
    · exact va_eqt (hs (.eq (.elem (.static "VerseYears" "FIRST_VALUES" "[I") (.int 17)) (.int 0)) (by decide +kernel))
    · exact va_eqt (hs (.eq (.elem (.static "VerseYears" "FIRST_VALUES" "[I") (.int 18)) (.int 0)) (by decide +kernel))
    · exact va_eqt (hs (.eq (.elem (.static "VerseYears" "FIRST_VALUES" "[I") (.int 19)) (.int 0)) (by decide +kernel))
    · exact va_eqt (hs (.eq (.elem (.static "VerseYears" "FIRST_VALUES" "[I") (.int 20)) (.int 0)) (by decide +kernel))
    · exact va_eqt (hs (.eq (.elem (.static "VerseYears" "FIRST_VALUES" "[I") (.int 21)) (.int 5)) (by decide +kernel))
    · exact va_eqt (hs (.eq (.elem (.static "VerseYears" "FIRST_VALUES" "[I") (.int 22)) (.int 0)) (by decide +kernel))
    · exact va_eqt (hs (.eq (.elem (.static "VerseYears" "FIRST_VALUES" "[I") (.int 23)) (.int 10)) (by decide +kernel))
    · exact va_eqt (hs (.eq (.elem (.static "VerseYears" "FIRST_VALUES" "[I") (.int 24)) (.int 0)) (by decide +kernel))
    · exact va_eqt (hs (.eq (.elem (.static "VerseYears" "FIRST_VALUES" "[I") (.int 25)) (.int 0)) (by decide +kernel))
  obtain ⟨t, h1, h2⟩ := va_Tof (tm := (.static "VerseYears" "FIRST_VALUES" "[I")) (ty := .int) (N := 26) (f := (fun j => .int (tF j))) (A := fun q => s.heap.size ≤ q) (by decide) (hs (.arrayOf (.static "VerseYears" "FIRST_VALUES" "[I") .int) (by decide +kernel)) (va_eqt (hs (.eq (.length (.static "VerseYears" "FIRST_VALUES" "[I")) (.int 26)) (by decide +kernel))) hel hA
  exact ⟨t, va_Zof (hts0 (.laysStatic "VerseYears" "FIRST_VALUES" "[I") (by decide +kernel)) (hts0 (.initialized "VerseYears") (by decide +kernel)) h1 hA, h2⟩
set_option maxRecDepth 100000 in
set_option maxHeartbeats 1000000 in
theorem st_VALUES {s : State} {b : Nat} (hgv : (Jvm.Cond.and given_1 narrow_1).before #[Value.ref b] s = true) (hts0 : ∀ w ∈ lw_tbl, w.before #[Value.ref b] s = true) : stA "VALUES" 8 tabV (fun q => s.heap.size ≤ q) s := by
  have hs := flat_of_before _ hgv
  have hA : ∀ q : Nat, q < s.heap.size → ¬ (fun q => s.heap.size ≤ q) q := fun q h => Nat.not_le.mpr h
  have hel : ∀ j : Nat, j < 8 → (Term.elem (.static "VerseYears" "VALUES" "[I") (.int (Int32.ofNat j))).eval #[Value.ref b] s none [] s = some (tabV j) := by
    intro j hj
    rcases (show j = 0 ∨ j = 1 ∨ j = 2 ∨ j = 3 ∨ j = 4 ∨ j = 5 ∨ j = 6 ∨ j = 7 by omega) with rfl | rfl | rfl | rfl | rfl | rfl | rfl | rfl
    · exact va_eqt (hs (.eq (.elem (.static "VerseYears" "VALUES" "[I") (.int 0)) (.int 0)) (by decide +kernel))
    · exact va_eqt (hs (.eq (.elem (.static "VerseYears" "VALUES" "[I") (.int 1)) (.int 1)) (by decide +kernel))
    · exact va_eqt (hs (.eq (.elem (.static "VerseYears" "VALUES" "[I") (.int 2)) (.int 5)) (by decide +kernel))
    · exact va_eqt (hs (.eq (.elem (.static "VerseYears" "VALUES" "[I") (.int 3)) (.int 10)) (by decide +kernel))
    · exact va_eqt (hs (.eq (.elem (.static "VerseYears" "VALUES" "[I") (.int 4)) (.int 50)) (by decide +kernel))
    · exact va_eqt (hs (.eq (.elem (.static "VerseYears" "VALUES" "[I") (.int 5)) (.int 100)) (by decide +kernel))
    · exact va_eqt (hs (.eq (.elem (.static "VerseYears" "VALUES" "[I") (.int 6)) (.int 500)) (by decide +kernel))
    · exact va_eqt (hs (.eq (.elem (.static "VerseYears" "VALUES" "[I") (.int 7)) (.int 1000)) (by decide +kernel))
  obtain ⟨t, h1, h2⟩ := va_Tof (tm := (.static "VerseYears" "VALUES" "[I")) (ty := .int) (N := 8) (f := tabV) (A := fun q => s.heap.size ≤ q) (by decide) (hs (.arrayOf (.static "VerseYears" "VALUES" "[I") .int) (by decide +kernel)) (va_eqt (hs (.eq (.length (.static "VerseYears" "VALUES" "[I")) (.int 8)) (by decide +kernel))) hel hA
  exact ⟨t, va_Zof (hts0 (.laysStatic "VerseYears" "VALUES" "[I") (by decide +kernel)) (hts0 (.initialized "VerseYears") (by decide +kernel)) h1 hA, h2⟩
set_option maxRecDepth 100000 in
set_option maxHeartbeats 1000000 in
theorem st_ASKED_BY_COUNTING {s : State} {b : Nat} (hgv : (Jvm.Cond.and given_1 narrow_1).before #[Value.ref b] s = true) (hts0 : ∀ w ∈ lw_tbl, w.before #[Value.ref b] s = true) : stA "ASKED_BY_COUNTING" 3 tabA (fun q => s.heap.size ≤ q) s := by
  have hs := flat_of_before _ hgv
  have hA : ∀ q : Nat, q < s.heap.size → ¬ (fun q => s.heap.size ≤ q) q := fun q h => Nat.not_le.mpr h
  have hel : ∀ j : Nat, j < 3 → (Term.elem (.static "VerseYears" "ASKED_BY_COUNTING" "[I") (.int (Int32.ofNat j))).eval #[Value.ref b] s none [] s = some (tabA j) := by
    intro j hj
    rcases (show j = 0 ∨ j = 1 ∨ j = 2 by omega) with rfl | rfl | rfl
    · exact va_eqt (hs (.eq (.elem (.static "VerseYears" "ASKED_BY_COUNTING" "[I") (.int 0)) (.int 1)) (by decide +kernel))
    · exact va_eqt (hs (.eq (.elem (.static "VerseYears" "ASKED_BY_COUNTING" "[I") (.int 1)) (.int 11)) (by decide +kernel))
    · exact va_eqt (hs (.eq (.elem (.static "VerseYears" "ASKED_BY_COUNTING" "[I") (.int 2)) (.int 111)) (by decide +kernel))
  obtain ⟨t, h1, h2⟩ := va_Tof (tm := (.static "VerseYears" "ASKED_BY_COUNTING" "[I")) (ty := .int) (N := 3) (f := tabA) (A := fun q => s.heap.size ≤ q) (by decide) (hs (.arrayOf (.static "VerseYears" "ASKED_BY_COUNTING" "[I") .int) (by decide +kernel)) (va_eqt (hs (.eq (.length (.static "VerseYears" "ASKED_BY_COUNTING" "[I")) (.int 3)) (by decide +kernel))) hel hA
  exact ⟨t, va_Zof (hts0 (.laysStatic "VerseYears" "ASKED_BY_COUNTING" "[I") (by decide +kernel)) (hts0 (.initialized "VerseYears") (by decide +kernel)) h1 hA, h2⟩
set_option maxHeartbeats 4000000 in
set_option maxRecDepth 100000 in
theorem whole_start {p : Program} {e : Env} {s : State} {m : MethodId} {below : List Frame} {meth : Method} {c : Code} (l : Launch) {b L : Nat} {xs : Nat → Int32} (hL : L ≤ 4096) (C0 : lw_At p s m meth c b L xs) : W p l e room_1 s m #[Value.ref b] below meth c s.heap [] 0 0 (lw_Z below #[Value.ref b] s) (entryFrame m ([Value.ref b] : List Value).toArray 4) := by
  obtain ⟨hx, hb, hr, hml, hown, hts0, hXs, hbl, hlocks, hgv⟩ := id C0
  have hown : s.vm.findClass RL = some m.cls := hown
  have hts : ∀ w ∈ wsL_law, w.before #[Value.ref b] s = true := fun w h => hts0 w (wsL_law_in w h)
  have hA : ∀ q : Nat, s.heap.size ≤ q → (fun q : Nat => s.heap.size ≤ q) q := fun _ h => h
  obtain ⟨c0, i0, hk0⟩ := u_known (C := RX0) (T := TX0) (N := 1) (n := 1) hts0 inX0 (hts0 (.instantiable RX0 1) (by decide +kernel))
  obtain ⟨c1, i1, hk1⟩ := u_known (C := RX1) (T := TX1) (N := 5) (n := 5) hts0 inX1 (hts0 (.instantiable RX1 5) (by decide +kernel))
  obtain ⟨c2, i2, hk2⟩ := u_known (C := RX2) (T := TX2) (N := 11) (n := 11) hts0 inX2 (hts0 (.instantiable RX2 11) (by decide +kernel))
  obtain ⟨c3, i3, hk3⟩ := u_known (C := RX3) (T := TX3) (N := 10) (n := 10) hts0 inX3 (hts0 (.instantiable RX3 10) (by decide +kernel))
  obtain ⟨c4, i4, hk4⟩ := u_known (C := RX4) (T := TX4) (N := 6) (n := 6) hts0 inX4 (hts0 (.instantiable RX4 6) (by decide +kernel))
  obtain ⟨c5, i5, hk5⟩ := u_known (C := RX5) (T := TX5) (N := 6) (n := 6) hts0 inX5 (hts0 (.instantiable RX5 6) (by decide +kernel))
  obtain ⟨c6, i6, hk6⟩ := u_known (C := RX6) (T := TX6) (N := 23) (n := 23) hts0 inX6 (hts0 (.instantiable RX6 23) (by decide +kernel))
  obtain ⟨a0, ha0, hb0⟩ := arr_K (ty := .int) (hts0 (.arrayClass .int) (by decide +kernel)) (fun _ h => h)
  obtain ⟨a1, ha1, hb1⟩ := arr_K (ty := .long) (hts0 (.arrayClass .long) (by decide +kernel)) (fun _ h => h)
  obtain ⟨a2, ha2, hb2⟩ := arr_K (ty := .boolean) (hts0 (.arrayClass .boolean) (by decide +kernel)) (fun _ h => h)
  obtain ⟨g, hK, hg⟩ : ∃ g : GW, va_K g.1 vwCl (tyW g) s ∧ g.2.1 = (a0, a1, a2) := by
    refine ⟨((fun k => match k with | 0 => c0 | 1 => c1 | 2 => c2 | 3 => c3 | 4 => c4 | 5 => c5 | _ => c6, fun k => match k with | 0 => i0 | 1 => i1 | 2 => i2 | 3 => i3 | 4 => i4 | 5 => i5 | _ => i6), (a0, a1, a2), fun _ => 0), ⟨fun k q hq => ?_, fun k q hq => ?_⟩, rfl⟩
    · match k, hq with
      | 0, hq => cases hq; exact hk0
      | 1, hq => cases hq; exact hk1
      | 2, hq => cases hq; exact hk2
      | 3, hq => cases hq; exact hk3
      | 4, hq => cases hq; exact hk4
      | 5, hq => cases hq; exact hk5
      | 6, hq => cases hq; exact hk6
      | k + 7, hq => simp [vwCl] at hq
    · match k, hq with
      | 0, hq => cases hq; exact ⟨ha0, hb0⟩
      | 1, hq => cases hq; exact ⟨ha1, hb1⟩
      | 2, hq => cases hq; exact ⟨ha2, hb2⟩
      | k + 3, hq => simp [tyW] at hq
  have hN : nwX s := ⟨va_Nw.of rfl (hts0 (.methodLinkNest RX0 24 yX5_isLetter RX5) (by decide +kernel)), va_Nw.of rfl (hts0 (.methodLinkNest RX0 28 yX5_isCapital RX5) (by decide +kernel)), va_Nw.of rfl (hts0 (.methodLinkNest RX1 25 yX5_byteOf RX5) (by decide +kernel)), va_Nw.of rfl (hts0 (.methodLinkNest RX1 35 yX5_isLetter RX5) (by decide +kernel)), va_Nw.of rfl (hts0 (.methodLinkNest RX5 18 yX1_init RX5) (by decide +kernel))⟩
  have hF : fA (fun q => s.heap.size ≤ q) s := ⟨va_Nw.of rfl (hts0 (.fieldLinkNest RX0 15 "VerseYears" "FIRST_VALUES" "[I" "VerseYears") (by decide +kernel)), st_FIRST_VALUES hgv hts0⟩
  have hS : va_S (fun q : Nat => s.heap.size ≤ q) s.heap s.heap [] := va_S.rf
  have hP : va_P g.1 vwCl [] s.heap := fun k q h => by simp at h
  have hD : va_D (fun q : Nat => s.heap.size ≤ q) [] := ⟨fun i j p q h => by simp at h, fun k q h => by simp at h⟩
  have hl := lv_entry ([.ref b]) (n := 4) (Nat.le_of_ble_eq_true rfl)
  rw [lg_entry_eq]
  generalize (lg_sl ([.ref b]) ++ List.replicate (4 - (lg_sl ([.ref b])).length) Slot.unset).toArray = ls at hl ⊢
  have hl : lv_has ls 4 [(0, .ref b)] := hl
  refine va_new (ci := 5) (fs := [.null, .null, .null, .null, .null, .long (lN 0)]) (C := RX5) (T := TX5) (N := 6) hx hb hts0 inX5 tyX5 tyX5_ok hown (hts0 (.classLink RL 7 RX5) (by decide +kernel)) (hts0 (.instantiable RX5 6) (by decide +kernel)) (hts0 (.initialized RX5) (by decide +kernel)) hK hP hD hS hA rfl (fun j hj => by rcases (show j = 0 ∨ j = 1 ∨ j = 2 ∨ j = 3 ∨ j = 4 ∨ j = 5 by omega) with rfl | rfl | rfl | rfl | rfl | rfl <;> rfl) (Nat.le_of_ble_eq_true rfl) (Nat.le_of_ble_eq_true rfl) dL_law_0 (fun q0 H hP hD hS => ?_)
  have hP : va_P g.1 vwCl [(q0, .inr (5, [.null, .null, .null, .null, .null, .long (lN 0)]))] H := hP
  have hD : va_D (fun q : Nat => s.heap.size ≤ q) [(q0, .inr (5, [.null, .null, .null, .null, .null, .long (lN 0)]))] := hD
  refine W.widen (k := 1) (n := 6) (by decide) (by decide) ?_
  refine lv_dup hx hb dL_law_3 rfl ?_
  have hPc := hP.sub (ws' := [(q0, .inr (5, [.null, .null, .null, .null, .null, .long (lN 0)]))]) [0] rfl
  have hDc := hD.sub (ws' := [(q0, .inr (5, [.null, .null, .null, .null, .null, .long (lN 0)]))]) [0] (by decide) rfl
  have hFc := va_free (wc := [(q0, .inr (5, [.null, .null, .null, .null, .null, .long (lN 0)]))]) hD hS hA [0] rfl
  refine va_callv (va_runI (As := []) (rest := [.ref q0]) ⟨hx, hb, hml, hown, hts⟩ (c_X5_init l q0 H.size) (cwI 0 hts gL_law_X5_init rfl rfl rfl (hts0 (.initialized RX5) (by decide +kernel)) (hts0 (.methodLink RL 9 yX5_init) (by decide +kernel)) (hts0 (.instanceMethod yX5_init) (by decide +kernel)) rfl (by decide +kernel) ⟨Nat.le_of_ble_eq_true rfl, Nat.le_of_ble_eq_true rfl⟩) (pre_S (fun U f mk a h => ⟨cW_bl U f mk a h.1, fA_bl U f mk a h.2⟩) (fun U hU hW => ⟨cW_of hPc hK hN hDc hU hW, fA_of hF hS hFc hU hW⟩)) rfl rfl hl.1 rfl (lv_room (Nat.le_of_ble_eq_true rfl)) dL_law_4 ⟨Nat.le_of_ble_eq_true rfl, Nat.le_of_ble_eq_true rfl⟩) hS (fun q _ h => hFc q h) hFc (fun ux t H1 locs ht hvm hw hB hz1 hk1 hS => ?_)
  obtain ⟨hP1, hD1⟩ := hB
  rw [ht] at hP1
  obtain ⟨hPj, hDj⟩ := va_join (wr := []) (w1 := wX (g.1, g.2.1, ux) (lN 0) (cpf 4) (fun _ => nI 0) (fun _ => nI 0) (fun _ => nI 0) (nI 0) (nI 0) (fun _ => nI 0) (fun _ => nI 0) (fun _ => nI 0) (fun _ => nI 0) (fil (fun _ => nI 0) (nI 7) 4) (nI 0) (fun _ => nI 0) (fun _ => nI 0) (fun _ => nI 0) (fun _ => lN 0) (fun _ => lN 0) (nI 1) (nI 0) (nI 0) (fun _ => nI 0) (fun _ => lN 0) (fun _ => lN 0) (fun _ => lN 0) (fun _ => lN 0) (nI 0) (nI 0) (nI 0)) hP hD [0] [] rfl rfl (by decide) (by decide) hk1 hFc hP1 hD1
  generalize H1 = Hj at hPj hS ⊢
  have hx0 : ux 0 = q0 := hw
  subst hx0
  generalize Hj = H at hPj hS ⊢
  have hP : va_P g.1 vwCl (wX (g.1, g.2.1, ux) (lN 0) (cpf 4) (fun _ => nI 0) (fun _ => nI 0) (fun _ => nI 0) (nI 0) (nI 0) (fun _ => nI 0) (fun _ => nI 0) (fun _ => nI 0) (fun _ => nI 0) (fil (fun _ => nI 0) (nI 7) 4) (nI 0) (fun _ => nI 0) (fun _ => nI 0) (fun _ => nI 0) (fun _ => lN 0) (fun _ => lN 0) (nI 1) (nI 0) (nI 0) (fun _ => nI 0) (fun _ => lN 0) (fun _ => lN 0) (fun _ => lN 0) (fun _ => lN 0) (nI 0) (nI 0) (nI 0)) H := hPj
  have hD : va_D (fun q : Nat => s.heap.size ≤ q) (wX (g.1, g.2.1, ux) (lN 0) (cpf 4) (fun _ => nI 0) (fun _ => nI 0) (fun _ => nI 0) (nI 0) (nI 0) (fun _ => nI 0) (fun _ => nI 0) (fun _ => nI 0) (fun _ => nI 0) (fil (fun _ => nI 0) (nI 7) 4) (nI 0) (fun _ => nI 0) (fun _ => nI 0) (fun _ => nI 0) (fun _ => lN 0) (fun _ => lN 0) (nI 1) (nI 0) (nI 0) (fun _ => nI 0) (fun _ => lN 0) (fun _ => lN 0) (fun _ => lN 0) (fun _ => lN 0) (nI 0) (nI 0) (nI 0)) := hDj
  refine W.widen (k := 25) (n := 9800) (by decide) (by decide) ?_
  refine lv_astore_n (lv' := [(1, .ref (ux 0)), (0, .ref b)]) hx hb dL_law_7 rfl hl (by decide) rfl (fun ls hl => ?_)
  refine va_new (ci := 6) (fs := [.int (nI 0), .long (lN 0), .null, .null, .int (nI 0), .int (nI 0), .null, .null, .null, .null, .null, .null, .null, .null, .null, .null, .int (nI 0), .null, .null, .null, .null, .null, .null]) (C := RX6) (T := TX6) (N := 23) hx hb hts0 inX6 tyX6 tyX6_ok hown (hts0 (.classLink RL 10 RX6) (by decide +kernel)) (hts0 (.instantiable RX6 23) (by decide +kernel)) (hts0 (.initialized RX6) (by decide +kernel)) hK hP hD hS hA rfl (fun j hj => by rcases (show j = 0 ∨ j = 1 ∨ j = 2 ∨ j = 3 ∨ j = 4 ∨ j = 5 ∨ j = 6 ∨ j = 7 ∨ j = 8 ∨ j = 9 ∨ j = 10 ∨ j = 11 ∨ j = 12 ∨ j = 13 ∨ j = 14 ∨ j = 15 ∨ j = 16 ∨ j = 17 ∨ j = 18 ∨ j = 19 ∨ j = 20 ∨ j = 21 ∨ j = 22 by omega) with rfl | rfl | rfl | rfl | rfl | rfl | rfl | rfl | rfl | rfl | rfl | rfl | rfl | rfl | rfl | rfl | rfl | rfl | rfl | rfl | rfl | rfl | rfl <;> rfl) (Nat.le_of_ble_eq_true rfl) (Nat.le_of_ble_eq_true rfl) dL_law_8 (fun q8 H hP hD hS => ?_)
  have hP : va_P g.1 vwCl ((wX (g.1, g.2.1, ux) (lN 0) (cpf 4) (fun _ => nI 0) (fun _ => nI 0) (fun _ => nI 0) (nI 0) (nI 0) (fun _ => nI 0) (fun _ => nI 0) (fun _ => nI 0) (fun _ => nI 0) (fil (fun _ => nI 0) (nI 7) 4) (nI 0) (fun _ => nI 0) (fun _ => nI 0) (fun _ => nI 0) (fun _ => lN 0) (fun _ => lN 0) (nI 1) (nI 0) (nI 0) (fun _ => nI 0) (fun _ => lN 0) (fun _ => lN 0) (fun _ => lN 0) (fun _ => lN 0) (nI 0) (nI 0) (nI 0)) ++ [(q8, .inr (6, [.int (nI 0), .long (lN 0), .null, .null, .int (nI 0), .int (nI 0), .null, .null, .null, .null, .null, .null, .null, .null, .null, .null, .int (nI 0), .null, .null, .null, .null, .null, .null]))]) H := hP
  have hD : va_D (fun q : Nat => s.heap.size ≤ q) ((wX (g.1, g.2.1, ux) (lN 0) (cpf 4) (fun _ => nI 0) (fun _ => nI 0) (fun _ => nI 0) (nI 0) (nI 0) (fun _ => nI 0) (fun _ => nI 0) (fun _ => nI 0) (fun _ => nI 0) (fil (fun _ => nI 0) (nI 7) 4) (nI 0) (fun _ => nI 0) (fun _ => nI 0) (fun _ => nI 0) (fun _ => lN 0) (fun _ => lN 0) (nI 1) (nI 0) (nI 0) (fun _ => nI 0) (fun _ => lN 0) (fun _ => lN 0) (fun _ => lN 0) (fun _ => lN 0) (nI 0) (nI 0) (nI 0)) ++ [(q8, .inr (6, [.int (nI 0), .long (lN 0), .null, .null, .int (nI 0), .int (nI 0), .null, .null, .null, .null, .null, .null, .null, .null, .null, .null, .int (nI 0), .null, .null, .null, .null, .null, .null]))]) := hD
  refine W.widen (k := 26) (n := 9823) (by decide) (by decide) ?_
  refine lv_dup hx hb dL_law_11 rfl ?_
  have hPc := hP.sub (ws' := [(q8, .inr (6, [.int (nI 0), .long (lN 0), .null, .null, .int (nI 0), .int (nI 0), .null, .null, .null, .null, .null, .null, .null, .null, .null, .null, .int (nI 0), .null, .null, .null, .null, .null, .null]))]) [25] rfl
  have hDc := hD.sub (ws' := [(q8, .inr (6, [.int (nI 0), .long (lN 0), .null, .null, .int (nI 0), .int (nI 0), .null, .null, .null, .null, .null, .null, .null, .null, .null, .null, .int (nI 0), .null, .null, .null, .null, .null, .null]))]) [25] (by decide) rfl
  have hFc := va_free (wc := [(q8, .inr (6, [.int (nI 0), .long (lN 0), .null, .null, .int (nI 0), .int (nI 0), .null, .null, .null, .null, .null, .null, .null, .null, .null, .null, .int (nI 0), .null, .null, .null, .null, .null, .null]))]) hD hS hA [25] rfl
  refine va_callv (va_runI (As := []) (rest := [.ref q8]) ⟨hx, hb, hml, hown, hts⟩ (c_X6_init l q8 H.size) (cwI 0 hts gL_law_X6_init rfl rfl rfl (hts0 (.initialized RX6) (by decide +kernel)) (hts0 (.methodLink RL 12 yX6_init) (by decide +kernel)) (hts0 (.instanceMethod yX6_init) (by decide +kernel)) rfl (by decide +kernel) ⟨Nat.le_of_ble_eq_true rfl, Nat.le_of_ble_eq_true rfl⟩) (pre_S cW_bl (fun U hU hW => cW_of hPc hK hN hDc hU hW)) rfl rfl hl.1 rfl (lv_room (Nat.le_of_ble_eq_true rfl)) dL_law_12 ⟨Nat.le_of_ble_eq_true rfl, Nat.le_of_ble_eq_true rfl⟩) hS (fun q _ h => hFc q h) hFc (fun um t H1 locs ht hvm hw hB hz1 hk1 hS => ?_)
  obtain ⟨hP1, hD1⟩ := hB
  rw [ht] at hP1
  obtain ⟨hPj, hDj⟩ := va_join (wr := (wX (g.1, g.2.1, ux) (lN 0) (cpf 4) (fun _ => nI 0) (fun _ => nI 0) (fun _ => nI 0) (nI 0) (nI 0) (fun _ => nI 0) (fun _ => nI 0) (fun _ => nI 0) (fun _ => nI 0) (fil (fun _ => nI 0) (nI 7) 4) (nI 0) (fun _ => nI 0) (fun _ => nI 0) (fun _ => nI 0) (fun _ => lN 0) (fun _ => lN 0) (nI 1) (nI 0) (nI 0) (fun _ => nI 0) (fun _ => lN 0) (fun _ => lN 0) (fun _ => lN 0) (fun _ => lN 0) (nI 0) (nI 0) (nI 0))) (w1 := wM (g.1, g.2.1, um) (lN 0) (vI 4) (fun _ => nI 0) (nI 0) (nI 0) (fun _ => nI 0) (fun _ => nI 0) (fun _ => nI 0) (fun _ => nI 0) (oI 4) (fun _ => lN 0) (fun _ => lN 0) (fun _ => nI 0) (fun _ => nI 0) (fun _ => nI 0) (nI 0) (fun _ => nI 0) (fun _ => nI 0) (fun _ => nI 0) (fun _ => nI 0) (fun _ => lN 0) (fun _ => lN 0)) hP hD [25] [0, 1, 2, 3, 4, 5, 6, 7, 8, 9, 10, 11, 12, 13, 14, 15, 16, 17, 18, 19, 20, 21, 22, 23, 24] rfl rfl (by decide) (by decide) hk1 hFc hP1 hD1
  generalize H1 = Hj at hPj hS ⊢
  have hx1 : um 0 = q8 := hw
  subst hx1
  generalize Hj = H at hPj hS ⊢
  have hP := hPj
  have hD := hDj
  refine W.widen (k := 44) (n := 136235) (by decide) (by decide) ?_
  have hPX : va_P g.1 vwCl (wX (g.1, g.2.1, ux) (lN 0) (cpf 4) (fun _ => nI 0) (fun _ => nI 0) (fun _ => nI 0) (nI 0) (nI 0) (fun _ => nI 0) (fun _ => nI 0) (fun _ => nI 0) (fun _ => nI 0) (fil (fun _ => nI 0) (nI 7) 4) (nI 0) (fun _ => nI 0) (fun _ => nI 0) (fun _ => nI 0) (fun _ => lN 0) (fun _ => lN 0) (nI 1) (nI 0) (nI 0) (fun _ => nI 0) (fun _ => lN 0) (fun _ => lN 0) (fun _ => lN 0) (fun _ => lN 0) (nI 0) (nI 0) (nI 0)) H := hP.sub [0, 1, 2, 3, 4, 5, 6, 7, 8, 9, 10, 11, 12, 13, 14, 15, 16, 17, 18, 19, 20, 21, 22, 23, 24] rfl
  have hPM : va_P g.1 vwCl (wM (g.1, g.2.1, um) (lN 0) (vI 4) (fun _ => nI 0) (nI 0) (nI 0) (fun _ => nI 0) (fun _ => nI 0) (fun _ => nI 0) (fun _ => nI 0) (oI 4) (fun _ => lN 0) (fun _ => lN 0) (fun _ => nI 0) (fun _ => nI 0) (fun _ => nI 0) (nI 0) (fun _ => nI 0) (fun _ => nI 0) (fun _ => nI 0) (fun _ => nI 0) (fun _ => lN 0) (fun _ => lN 0)) H := hP.sub [25, 26, 27, 28, 29, 30, 31, 32, 33, 34, 35, 36, 37, 38, 39, 40, 41, 42, 43] rfl
  have key : ∀ k, k < 44 → ∃ en : va_E, ((wX (g.1, g.2.1, ux) (lN 0) (cpf 4) (fun _ => nI 0) (fun _ => nI 0) (fun _ => nI 0) (nI 0) (nI 0) (fun _ => nI 0) (fun _ => nI 0) (fun _ => nI 0) (fun _ => nI 0) (fil (fun _ => nI 0) (nI 7) 4) (nI 0) (fun _ => nI 0) (fun _ => nI 0) (fun _ => nI 0) (fun _ => lN 0) (fun _ => lN 0) (nI 1) (nI 0) (nI 0) (fun _ => nI 0) (fun _ => lN 0) (fun _ => lN 0) (fun _ => lN 0) (fun _ => lN 0) (nI 0) (nI 0) (nI 0)) ++ (wM (g.1, g.2.1, um) (lN 0) (vI 4) (fun _ => nI 0) (nI 0) (nI 0) (fun _ => nI 0) (fun _ => nI 0) (fun _ => nI 0) (fun _ => nI 0) (oI 4) (fun _ => lN 0) (fun _ => lN 0) (fun _ => nI 0) (fun _ => nI 0) (fun _ => nI 0) (nI 0) (fun _ => nI 0) (fun _ => nI 0) (fun _ => nI 0) (fun _ => nI 0) (fun _ => lN 0) (fun _ => lN 0)))[k]? = some (if k < 25 then ux k else um (k - 25), en) := by
    intro k hk
    rcases (show k = 0 ∨ k = 1 ∨ k = 2 ∨ k = 3 ∨ k = 4 ∨ k = 5 ∨ k = 6 ∨ k = 7 ∨ k = 8 ∨ k = 9 ∨ k = 10 ∨ k = 11 ∨ k = 12 ∨ k = 13 ∨ k = 14 ∨ k = 15 ∨ k = 16 ∨ k = 17 ∨ k = 18 ∨ k = 19 ∨ k = 20 ∨ k = 21 ∨ k = 22 ∨ k = 23 ∨ k = 24 ∨ k = 25 ∨ k = 26 ∨ k = 27 ∨ k = 28 ∨ k = 29 ∨ k = 30 ∨ k = 31 ∨ k = 32 ∨ k = 33 ∨ k = 34 ∨ k = 35 ∨ k = 36 ∨ k = 37 ∨ k = 38 ∨ k = 39 ∨ k = 40 ∨ k = 41 ∨ k = 42 ∨ k = 43 by omega) with rfl | rfl | rfl | rfl | rfl | rfl | rfl | rfl | rfl | rfl | rfl | rfl | rfl | rfl | rfl | rfl | rfl | rfl | rfl | rfl | rfl | rfl | rfl | rfl | rfl | rfl | rfl | rfl | rfl | rfl | rfl | rfl | rfl | rfl | rfl | rfl | rfl | rfl | rfl | rfl | rfl | rfl | rfl | rfl <;> exact ⟨_, rfl⟩
  have apart : ∀ i j, i < 44 → j < 44 → (if i < 25 then ux i else um (i - 25)) = (if j < 25 then ux j else um (j - 25)) → i = j := by
    intro i j h1 h2 h3
    obtain ⟨e1, q1⟩ := key i h1
    obtain ⟨e2, q2⟩ := key j h2
    exact hD.1 i j _ _ q1 q2 h3
  have inA : ∀ i, i < 44 → s.heap.size ≤ (if i < 25 then ux i else um (i - 25)) := by
    intro i h1
    obtain ⟨e1, q1⟩ := key i h1
    exact hD.2 i _ q1
  have C1 : lwC p s m meth c b L xs (g.1, g.2.1, ux) (g.1, g.2.1, um) := by
    refine ⟨C0, hK, hK, hN, fun i j h1 h2 h3 => ?_, fun i j h1 h2 h3 => ?_, fun i j h1 h2 h3 => ?_, fun i h1 => ?_, fun i h1 => ?_, st_VALUES hgv hts0, st_ASKED_BY_COUNTING hgv hts0⟩
    · exact apart i j (by omega) (by omega) (by rw [if_pos h1, if_pos h2]; exact h3)
    · have := apart (i + 25) (j + 25) (by omega) (by omega) (by rw [if_neg (by omega), if_neg (by omega), Nat.add_sub_cancel, Nat.add_sub_cancel]; exact h3); omega
    · have := apart i (j + 25) (by omega) (by omega) (by rw [if_pos h1, if_neg (by omega), Nat.add_sub_cancel]; exact h3); omega
    · have := inA i (by omega); rw [if_pos h1] at this; exact this
    · have := inA (i + 25) (by omega); rw [if_neg (by omega), Nat.add_sub_cancel] at this; exact this
  have hE : lwE (g.1, g.2.1, ux) (g.1, g.2.1, um) H := by
    refine ⟨lN 0, cpf 4, fun _ => nI 0, 0, fun _ => nI 0, fun _ => nI 0, fun _ => nI 0, fun _ => nI 0, fil (fun _ => nI 0) (nI 7) 4, 0, ⟨_, _, _, _, _, _, _, _, _, _, _, _, _, _, _, _, _, _, hPX, fun i hi => absurd hi (Nat.not_lt_zero i), Or.inl rfl⟩, ⟨(fun _ => lN 0), (fun _ => lN 0), (fun _ => nI 0), (fun _ => nI 0), (fun _ => nI 0), (nI 0), (fun _ => nI 0), (fun _ => nI 0), (fun _ => nI 0), (fun _ => nI 0), (fun _ => lN 0), (fun _ => lN 0), ?_⟩, Nat.zero_le _, Nat.zero_le _, fun k hk => absurd hk (Nat.not_lt_zero k), fun k hk => absurd hk (Nat.not_lt_zero k), fun k hk => absurd hk (Nat.not_lt_zero k), cpf_ok⟩
    rw [vI_e, oI_e] at hPM
    exact hPM
  refine lv_astore_n (lv' := [(2, .ref (um 0)), (1, .ref (ux 0)), (0, .ref b)]) hx hb dL_law_15 rfl hl (by decide) rfl (fun ls hl => ?_)
  refine lv_iconst (v := nI 0) hx hb dL_law_16 (by decide) ?_
  refine lv_istore_n (lv' := [(3, .int (nI 0)), (2, .ref (um 0)), (1, .ref (ux 0)), (0, .ref b)]) hx hb dL_law_17 rfl hl (by decide) rfl (fun ls hl => ?_)
  exact law_loop C1 hL (L + 1) 0 (Nat.zero_le L) (by omega) H _ hE hS ls (lv_sub hl [3, 2, 1, 0] rfl)
