set_option maxHeartbeats 1000000 in
set_option maxRecDepth 100000 in
theorem law_about {p : Program} {l : Launch} {e : Env} {s : State} {m : MethodId} {below : List Frame} {meth : Method} {c : Code} {b Ls : Nat} {xs : Nat → Int32} {gx gm : GW} (C : lwC p s m meth c b Ls xs gx gm) {i : Nat} (hi : i + 8 ≤ Ls) (hL4 : Ls ≤ 4096) {tr : Int64} {va : Nat → Int32} {bt : Nat → Int32} {L : Nat} {tx : Nat → Int32} {le : Nat → Int32} {fe : Nat → Int32} {so : Nat → Int32} {nx : Nat → Int32} {nv : Nat} {H : Heap} {locs : List Loc} (hX : PX gx tr va bt L tx le fe so nx nv H) (hM : PM gm tr va bt L tx le fe so nx nv H) (hO : okC va L le fe so nv) (hS : va_S (fun q => s.heap.size ≤ q) s.heap H locs) {ls : Array Slot} (hl : lv_has ls 4 [(0, .ref b), (1, .ref (gx.2.2 0)), (2, .ref (gm.2.2 0)), (3, .int (nI i))]) (kk : ∀ (H : Heap) (locs : List Loc) (ls : Array Slot), lwE gx gm H → va_S (fun q => s.heap.size ≤ q) s.heap H locs → lv_has ls 4 [(0, .ref b), (1, .ref (gx.2.2 0)), (2, .ref (gm.2.2 0)), (3, .int (nI i))] → W p l e room_1 s m #[Value.ref b] below meth c H locs 44 136235 (lw_Z below #[Value.ref b] s) (F0 m 824 ls [])) : W p l e room_1 s m #[Value.ref b] below meth c H locs 44 136235 (lw_Z below #[Value.ref b] s) (F0 m 358 ls []) := by
  obtain ⟨⟨hx, hb, hr, hml, hown, hts0, hXs, hbl, hlocks, hgv⟩, hK, hKm, hN, hdx, hdm, hne, hax, ham, hst1, hst2⟩ := C
  have hown : s.vm.findClass RL = some m.cls := hown
  obtain ⟨hL2, hnv, hle, hfe, hso, hva⟩ := id hO
  have hts : ∀ w ∈ wsL_law, w.before #[Value.ref b] s = true := fun w h => hts0 w (wsL_law_in w h)
  have hbA : ¬ (fun q : Nat => s.heap.size ≤ q) b := Nat.not_le.mpr hbl
  obtain ⟨st, en, sm, os, ot, bf, kp, ov, rc, ru, ss, wy, nw, re, nr, fo, lt, gr, hP, hrow, hrok⟩ := id hX
  refine lv_aload_n hx hb dL_law_358 rfl (lv_at hl 1 rfl) ?_
  refine lv_aload_n hx hb dL_law_359 rfl (lv_at hl 0 rfl) ?_
  refine lv_iload_n hx hb dL_law_360 rfl (lv_at hl 3 rfl) ?_
  refine lv_iconst (v := nI 1) hx hb dL_law_361 (by decide) ?_
  refine ln_iadd hx hb dL_law_362 ?_
  refine an_sld hx hb hXs hbl hbA hS (by omega) (by omega) dL_law_363 ?_
  refine lv_aload_n hx hb dL_law_364 rfl (lv_at hl 0 rfl) ?_
  refine lv_iload_n hx hb dL_law_365 rfl (lv_at hl 3 rfl) ?_
  refine lv_iconst (v := nI 2) hx hb dL_law_366 (by decide) ?_
  refine ln_iadd hx hb dL_law_367 ?_
  refine an_sld hx hb hXs hbl hbA hS (by omega) (by omega) dL_law_368 ?_
  refine ro_call (va_runV (As := [.int (xs (i + 1)), .int (xs (i + 2))]) (rest := []) ⟨hx, hb, hml, hown, hts⟩ (c_X5_about l (g := gx) (asked := tr) (values := va) (bytes := bt) (starts := st) (ends := en) (length := nI L) (parts := nI (pn bt L)) (texts := tx) (lengths := le) (feet := fe) (sorts := so) (nxt := nx) (nv := nv) (sums := sm) (oneSums := os) (otherSums := ot) (byFeet := bf) (kept := kp) (over := ov) (rcount := rc) (rcust := ru) (ssums := ss) (ways := wy) (nextWays := nw) (reached := re) (nextReached := nr) (found := fo) (least := lt) (greatest := gr) (xs (i + 1)) (xs (i + 2)) hnv) (cwV 2 hts gL_law_X5_about rfl rfl rfl (by decide +kernel) ⟨Nat.le_of_ble_eq_true rfl, Nat.le_of_ble_eq_true rfl⟩) (pre_V pW_bl (va_recv hK hP (ci := 5) (q0 := 0) rfl rfl) (fun U hU hW => pW_of hP hK hN hU hW)) rfl rfl hl.1 rfl (lv_room (Nat.le_of_ble_eq_true rfl)) dL_law_369 ⟨Nat.le_of_ble_eq_true rfl, Nat.le_of_ble_eq_true rfl⟩) ?_
  have hX1 := hX
  have hM1 := hM
  obtain ⟨lf, op, ow, ot, pk, pa, fr, zs, iy, ix, wy, nw, hPm⟩ := id hM1
  refine lv_aload_n hx hb dL_law_372 rfl (lv_at hl 2 rfl) ?_
  refine lv_aload_n hx hb dL_law_373 rfl (lv_at hl 0 rfl) ?_
  refine lv_iload_n hx hb dL_law_374 rfl (lv_at hl 3 rfl) ?_
  refine lv_iconst (v := nI 1) hx hb dL_law_375 (by decide) ?_
  refine ln_iadd hx hb dL_law_376 ?_
  refine an_sld hx hb hXs hbl hbA hS (by omega) (by omega) dL_law_377 ?_
  refine lv_aload_n hx hb dL_law_378 rfl (lv_at hl 0 rfl) ?_
  refine lv_iload_n hx hb dL_law_379 rfl (lv_at hl 3 rfl) ?_
  refine lv_iconst (v := nI 2) hx hb dL_law_380 (by decide) ?_
  refine ln_iadd hx hb dL_law_381 ?_
  refine an_sld hx hb hXs hbl hbA hS (by omega) (by omega) dL_law_382 ?_
  refine lx_i (w := (fun (z : Unit) => wM gm tr va bt (nI L) (nI nv) tx le fe so nx lf op ow ot pk pa fr zs iy ix wy nw)) (va_runV (As := [.int (xs (i + 1)), .int (xs (i + 2))]) (rest := [.int (aAbout le fe so tx nv ((xs (i + 1))) ((xs (i + 2))))]) ⟨hx, hb, hml, hown, hts⟩ (c_X6_about l (g := gm) (trace := tr) (value := va) (draft := bt) (typed := nI L) (nv := nv) (letter := tx) (long1 := le) (feet := fe) (sort := so) (order := nx) (left := lf) (opn := op) (own := ow) (other := ot) (pick := pk) (parts := pa) (frm := fr) (size := zs) (isYear := iy) (isNext := ix) (ways := wy) (nextWays := nw) (sz := _) (xs (i + 1)) (xs (i + 2)) hnv hdm) (cwV 2 hts gL_law_X6_about rfl rfl rfl (by decide +kernel) ⟨Nat.le_of_ble_eq_true rfl, Nat.le_of_ble_eq_true rfl⟩) (pre_V qW_bl (va_recv hKm hPm (ci := 6) (q0 := 0) rfl rfl) (fun U hU hW => ⟨by rw [hU], pW_of hPm hKm hN hU hW⟩)) rfl rfl hl.1 rfl (lv_room (Nat.le_of_ble_eq_true rfl)) dL_law_383 ⟨Nat.le_of_ble_eq_true rfl, Nat.le_of_ble_eq_true rfl⟩) hS ham (fun r2 z H locs hp hP9 hk hS => ?_)
  try dsimp only at hp
  have hP9 : va_P gm.1 vwCl (wM gm tr va bt (nI L) (nI nv) tx le fe so nx lf op ow ot pk pa fr zs iy ix wy nw) H := hP9
  have hX2 := PX_kept hX1 (fun j hj => hk _ (PX_lt hX1 hj) (aW_no (fun k hk2 h => hne j k hj hk2 h) (PX_lt hX1 hj)))
  subst hp
  have hM2 : PM gm tr va bt L tx le fe so nx nv H := ⟨_, _, _, _, _, _, _, _, _, _, _, _, hP9⟩
  refine lv_icmp_eq (tgt := 824) hx hb dL_law_386 (by decide) (fun _ => ?_) (fun c9 => absurd rfl c9)
  exact kk _ _ ls ⟨_, _, _, _, _, _, _, _, _, _, hX2, hM2, hO⟩ hS hl
set_option maxHeartbeats 1000000 in
set_option maxRecDepth 100000 in
theorem law_order {p : Program} {l : Launch} {e : Env} {s : State} {m : MethodId} {below : List Frame} {meth : Method} {c : Code} {b Ls : Nat} {xs : Nat → Int32} {gx gm : GW} (C : lwC p s m meth c b Ls xs gx gm) {i : Nat} (hi : i + 8 ≤ Ls) (hL4 : Ls ≤ 4096) {tr : Int64} {va : Nat → Int32} {bt : Nat → Int32} {L : Nat} {tx : Nat → Int32} {le : Nat → Int32} {fe : Nat → Int32} {so : Nat → Int32} {nx : Nat → Int32} {nv : Nat} {H : Heap} {locs : List Loc} (hX : PX gx tr va bt L tx le fe so nx nv H) (hM : PM gm tr va bt L tx le fe so nx nv H) (hO : okC va L le fe so nv) (hS : va_S (fun q => s.heap.size ≤ q) s.heap H locs) {ls : Array Slot} (hl : lv_has ls 4 [(0, .ref b), (1, .ref (gx.2.2 0)), (2, .ref (gm.2.2 0)), (3, .int (nI i))]) (kk : ∀ (H : Heap) (locs : List Loc) (ls : Array Slot), lwE gx gm H → va_S (fun q => s.heap.size ≤ q) s.heap H locs → lv_has ls 4 [(0, .ref b), (1, .ref (gx.2.2 0)), (2, .ref (gm.2.2 0)), (3, .int (nI i))] → W p l e room_1 s m #[Value.ref b] below meth c H locs 44 136235 (lw_Z below #[Value.ref b] s) (F0 m 824 ls [])) : W p l e room_1 s m #[Value.ref b] below meth c H locs 44 136235 (lw_Z below #[Value.ref b] s) (F0 m 391 ls []) := by
  obtain ⟨⟨hx, hb, hr, hml, hown, hts0, hXs, hbl, hlocks, hgv⟩, hK, hKm, hN, hdx, hdm, hne, hax, ham, hst1, hst2⟩ := C
  have hown : s.vm.findClass RL = some m.cls := hown
  obtain ⟨hL2, hnv, hle, hfe, hso, hva⟩ := id hO
  have hts : ∀ w ∈ wsL_law, w.before #[Value.ref b] s = true := fun w h => hts0 w (wsL_law_in w h)
  have hbA : ¬ (fun q : Nat => s.heap.size ≤ q) b := Nat.not_le.mpr hbl
  obtain ⟨st, en, sm, os, ot, bf, kp, ov, rc, ru, ss, wy, nw, re, nr, fo, lt, gr, hP, hrow, hrok⟩ := id hX
  refine lv_aload_n hx hb dL_law_391 rfl (lv_at hl 1 rfl) ?_
  refine lv_aload_n hx hb dL_law_392 rfl (lv_at hl 0 rfl) ?_
  refine lv_iload_n hx hb dL_law_393 rfl (lv_at hl 3 rfl) ?_
  refine lv_iconst (v := nI 1) hx hb dL_law_394 (by decide) ?_
  refine ln_iadd hx hb dL_law_395 ?_
  refine an_sld hx hb hXs hbl hbA hS (by omega) (by omega) dL_law_396 ?_
  refine lv_aload_n hx hb dL_law_397 rfl (lv_at hl 0 rfl) ?_
  refine lv_iload_n hx hb dL_law_398 rfl (lv_at hl 3 rfl) ?_
  refine lv_iconst (v := nI 2) hx hb dL_law_399 (by decide) ?_
  refine ln_iadd hx hb dL_law_400 ?_
  refine an_sld hx hb hXs hbl hbA hS (by omega) (by omega) dL_law_401 ?_
  refine lx_i (w := (fun (z : (Nat → Int32) × Int32) => wX gx tr va bt st en (nI L) (nI (pn bt L)) tx le fe so (z.1) (nI nv) sm os ot bf kp (z.2) rc ru ss wy nw re nr fo lt gr)) (va_runV (As := [.int (xs (i + 1)), .int (xs (i + 2))]) (rest := []) ⟨hx, hb, hml, hown, hts⟩ (c_X5_order l (g := gx) (asked := tr) (values := va) (bytes := bt) (starts := st) (ends := en) (length := nI L) (parts := nI (pn bt L)) (texts := tx) (lengths := le) (feet := fe) (sorts := so) (nxt := nx) (size := nI nv) (sums := sm) (oneSums := os) (otherSums := ot) (byFeet := bf) (kept := kp) (over := ov) (rcount := rc) (rcust := ru) (ssums := ss) (ways := wy) (nextWays := nw) (reached := re) (nextReached := nr) (found := fo) (least := lt) (greatest := gr) (sz := _) (xs (i + 1)) (xs (i + 2))  hdx) (cwV 2 hts gL_law_X5_order rfl rfl rfl (by decide +kernel) ⟨Nat.le_of_ble_eq_true rfl, Nat.le_of_ble_eq_true rfl⟩) (pre_V qW_bl (va_recv hK hP (ci := 5) (q0 := 0) rfl rfl) (fun U hU hW => ⟨by rw [hU], pW_of hP hK hN hU hW⟩)) rfl rfl hl.1 rfl (lv_room (Nat.le_of_ble_eq_true rfl)) dL_law_402 ⟨Nat.le_of_ble_eq_true rfl, Nat.le_of_ble_eq_true rfl⟩) hS hax (fun r1 z H locs hp hP9 hk hS => ?_)
  obtain ⟨n_nxt, n_over⟩ := z
  try dsimp only at hp
  have hP9 : va_P gx.1 vwCl (wX gx tr va bt st en (nI L) (nI (pn bt L)) tx le fe so n_nxt (nI nv) sm os ot bf kp n_over rc ru ss wy nw re nr fo lt gr) H := hP9
  have hM1 : PM gm tr va bt L tx le fe so nx nv H := PM_kept hM (fun j hj => hk _ (PM_lt hM hj) (aW_no (fun k hk2 h => hne k j hk2 hj h.symm) (PM_lt hM hj)))
  obtain ⟨hX1, hr9⟩ := PXn_order hP9 hrow hrok hp
  subst hr9
  obtain ⟨lf, op, ow, ot, pk, pa, fr, zs, iy, ix, wy, nw, hPm⟩ := id hM1
  refine lv_aload_n hx hb dL_law_405 rfl (lv_at hl 2 rfl) ?_
  refine lv_aload_n hx hb dL_law_406 rfl (lv_at hl 0 rfl) ?_
  refine lv_iload_n hx hb dL_law_407 rfl (lv_at hl 3 rfl) ?_
  refine lv_iconst (v := nI 1) hx hb dL_law_408 (by decide) ?_
  refine ln_iadd hx hb dL_law_409 ?_
  refine an_sld hx hb hXs hbl hbA hS (by omega) (by omega) dL_law_410 ?_
  refine lv_aload_n hx hb dL_law_411 rfl (lv_at hl 0 rfl) ?_
  refine lv_iload_n hx hb dL_law_412 rfl (lv_at hl 3 rfl) ?_
  refine lv_iconst (v := nI 2) hx hb dL_law_413 (by decide) ?_
  refine ln_iadd hx hb dL_law_414 ?_
  refine an_sld hx hb hXs hbl hbA hS (by omega) (by omega) dL_law_415 ?_
  refine lx_i (w := (fun (z : (Nat → Int32)) => wM gm tr va bt (nI L) (nI nv) tx le fe so z lf op ow ot pk pa fr zs iy ix wy nw)) (va_runV (As := [.int (xs (i + 1)), .int (xs (i + 2))]) (rest := [.int (rOrd nx (xs (i + 1)) (xs (i + 2)))]) ⟨hx, hb, hml, hown, hts⟩ (c_X6_order l (g := gm) (trace := tr) (value := va) (draft := bt) (typed := nI L) (vocables := nI nv) (letter := tx) (long1 := le) (feet := fe) (sort := so) (order := nx) (left := lf) (opn := op) (own := ow) (other := ot) (pick := pk) (parts := pa) (frm := fr) (size := zs) (isYear := iy) (isNext := ix) (ways := wy) (nextWays := nw) (sz := _) (xs (i + 1)) (xs (i + 2))  hdm) (cwV 2 hts gL_law_X6_order rfl rfl rfl (by decide +kernel) ⟨Nat.le_of_ble_eq_true rfl, Nat.le_of_ble_eq_true rfl⟩) (pre_V qW_bl (va_recv hKm hPm (ci := 6) (q0 := 0) rfl rfl) (fun U hU hW => ⟨by rw [hU], pW_of hPm hKm hN hU hW⟩)) rfl rfl hl.1 rfl (lv_room (Nat.le_of_ble_eq_true rfl)) dL_law_416 ⟨Nat.le_of_ble_eq_true rfl, Nat.le_of_ble_eq_true rfl⟩) hS ham (fun r2 z H locs hp hP9 hk hS => ?_)
  obtain ⟨n_order, rfl⟩ : ∃ y, y = z := ⟨_, rfl⟩
  try dsimp only at hp
  have hP9 : va_P gm.1 vwCl (wM gm tr va bt (nI L) (nI nv) tx le fe so n_order lf op ow ot pk pa fr zs iy ix wy nw) H := hP9
  have hX2 := PX_kept hX1 (fun j hj => hk _ (PX_lt hX1 hj) (aW_no (fun k hk2 h => hne j k hj hk2 h) (PX_lt hX1 hj)))
  obtain ⟨hM2, hr9⟩ := PMn_order hP9 hp
  subst hr9
  refine lv_icmp_eq (tgt := 824) hx hb dL_law_419 (by decide) (fun _ => ?_) (fun c9 => absurd rfl c9)
  exact kk _ _ ls ⟨_, _, _, _, _, _, _, _, _, _, hX2, hM2, hO⟩ hS hl
set_option maxHeartbeats 1000000 in
set_option maxRecDepth 100000 in
theorem law_many {p : Program} {l : Launch} {e : Env} {s : State} {m : MethodId} {below : List Frame} {meth : Method} {c : Code} {b Ls : Nat} {xs : Nat → Int32} {gx gm : GW} (C : lwC p s m meth c b Ls xs gx gm) {i : Nat} (hi : i + 8 ≤ Ls) (hL4 : Ls ≤ 4096) {tr : Int64} {va : Nat → Int32} {bt : Nat → Int32} {L : Nat} {tx : Nat → Int32} {le : Nat → Int32} {fe : Nat → Int32} {so : Nat → Int32} {nx : Nat → Int32} {nv : Nat} {H : Heap} {locs : List Loc} (hX : PX gx tr va bt L tx le fe so nx nv H) (hM : PM gm tr va bt L tx le fe so nx nv H) (hO : okC va L le fe so nv) (hS : va_S (fun q => s.heap.size ≤ q) s.heap H locs) {ls : Array Slot} (hl : lv_has ls 4 [(0, .ref b), (1, .ref (gx.2.2 0)), (2, .ref (gm.2.2 0)), (3, .int (nI i))]) (kk : ∀ (H : Heap) (locs : List Loc) (ls : Array Slot), lwE gx gm H → va_S (fun q => s.heap.size ≤ q) s.heap H locs → lv_has ls 4 [(0, .ref b), (1, .ref (gx.2.2 0)), (2, .ref (gm.2.2 0)), (3, .int (nI i))] → W p l e room_1 s m #[Value.ref b] below meth c H locs 44 136235 (lw_Z below #[Value.ref b] s) (F0 m 824 ls [])) : W p l e room_1 s m #[Value.ref b] below meth c H locs 44 136235 (lw_Z below #[Value.ref b] s) (F0 m 424 ls []) := by
  obtain ⟨⟨hx, hb, hr, hml, hown, hts0, hXs, hbl, hlocks, hgv⟩, hK, hKm, hN, hdx, hdm, hne, hax, ham, hst1, hst2⟩ := C
  have hown : s.vm.findClass RL = some m.cls := hown
  obtain ⟨hL2, hnv, hle, hfe, hso, hva⟩ := id hO
  have hts : ∀ w ∈ wsL_law, w.before #[Value.ref b] s = true := fun w h => hts0 w (wsL_law_in w h)
  have hbA : ¬ (fun q : Nat => s.heap.size ≤ q) b := Nat.not_le.mpr hbl
  obtain ⟨st, en, sm, os, ot, bf, kp, ov, rc, ru, ss, wy, nw, re, nr, fo, lt, gr, hP, hrow, hrok⟩ := id hX
  refine lv_aload_n hx hb dL_law_424 rfl (lv_at hl 1 rfl) ?_
  refine lv_aload_n hx hb dL_law_425 rfl (lv_at hl 0 rfl) ?_
  refine lv_iload_n hx hb dL_law_426 rfl (lv_at hl 3 rfl) ?_
  refine lv_iconst (v := nI 1) hx hb dL_law_427 (by decide) ?_
  refine ln_iadd hx hb dL_law_428 ?_
  refine an_sld hx hb hXs hbl hbA hS (by omega) (by omega) dL_law_429 ?_
  refine lx_l (w := (fun (z : (Nat → Int64)) => wX gx tr va bt st en (nI L) (nI (pn bt L)) tx le fe so nx (nI nv) sm os ot z kp ov rc ru ss wy nw re nr fo lt gr)) (va_runV (As := [.int (xs (i + 1))]) (rest := []) ⟨hx, hb, hml, hown, hts⟩ (c_X5_many l (g := gx) (asked := tr) (values := va) (bytes := bt) (starts := st) (ends := en) (length := nI L) (parts := nI (pn bt L)) (texts := tx) (lengths := le) (feet := fe) (sorts := so) (nxt := nx) (nv := nv) (sums := sm) (oneSums := os) (otherSums := ot) (byFeet := bf) (kept := kp) (over := ov) (rcount := rc) (rcust := ru) (ssums := ss) (ways := wy) (nextWays := nw) (reached := re) (nextReached := nr) (found := fo) (least := lt) (greatest := gr) (sz := _) (xs (i + 1)) hnv hfe hso hdx) (cwV 1 hts gL_law_X5_many rfl rfl rfl (by decide +kernel) ⟨Nat.le_of_ble_eq_true rfl, Nat.le_of_ble_eq_true rfl⟩) (pre_V qW_bl (va_recv hK hP (ci := 5) (q0 := 0) rfl rfl) (fun U hU hW => ⟨by rw [hU], pW_of hP hK hN hU hW⟩)) rfl rfl hl.1 rfl (lv_room (Nat.le_of_ble_eq_true rfl)) dL_law_430 ⟨Nat.le_of_ble_eq_true rfl, Nat.le_of_ble_eq_true rfl⟩) hS hax (fun r1 z H locs hp hP9 hk hS => ?_)
  obtain ⟨n_byFeet, rfl⟩ : ∃ y, y = z := ⟨_, rfl⟩
  try dsimp only at hp
  have hP9 : va_P gx.1 vwCl (wX gx tr va bt st en (nI L) (nI (pn bt L)) tx le fe so nx (nI nv) sm os ot n_byFeet kp ov rc ru ss wy nw re nr fo lt gr) H := hP9
  have hM1 : PM gm tr va bt L tx le fe so nx nv H := PM_kept hM (fun j hj => hk _ (PM_lt hM hj) (aW_no (fun k hk2 h => hne k j hk2 hj h.symm) (PM_lt hM hj)))
  subst hp
  have hX1 : PX gx tr va bt L tx le fe so nx nv H := ⟨_, _, _, _, _, _, _, _, _, _, _, _, _, _, _, _, _, _, hP9, hrow, hrok⟩
  obtain ⟨lf, op, ow, ot, pk, pa, fr, zs, iy, ix, wy, nw, hPm⟩ := id hM1
  refine lv_aload_n hx hb dL_law_433 rfl (lv_at hl 2 rfl) ?_
  refine lv_aload_n hx hb dL_law_434 rfl (lv_at hl 0 rfl) ?_
  refine lv_iload_n hx hb dL_law_435 rfl (lv_at hl 3 rfl) ?_
  refine lv_iconst (v := nI 1) hx hb dL_law_436 (by decide) ?_
  refine ln_iadd hx hb dL_law_437 ?_
  refine an_sld hx hb hXs hbl hbA hS (by omega) (by omega) dL_law_438 ?_
  refine lx_l (w := (fun (z : (Nat → Int64)) => wM gm tr va bt (nI L) (nI nv) tx le fe so nx lf z ow ot pk pa fr zs iy ix wy nw)) (va_runV (As := [.int (xs (i + 1))]) (rest := [.long (if 1 ≤ ((xs (i + 1))).toInt ∧ ((xs (i + 1))).toInt ≤ 8 then lN (mwy fe so nx nv (tn ((xs (i + 1)))) 3) else (-1 : Int64))]) ⟨hx, hb, hml, hown, hts⟩ (c_X6_many l (g := gm) (trace := tr) (value := va) (draft := bt) (typed := nI L) (nv := nv) (letter := tx) (long1 := le) (feet := fe) (sort := so) (order := nx) (left := lf) (opn := op) (own := ow) (other := ot) (pick := pk) (parts := pa) (frm := fr) (size := zs) (isYear := iy) (isNext := ix) (ways := wy) (nextWays := nw) (sz := _) (xs (i + 1)) hnv hfe hso hdm) (cwV 1 hts gL_law_X6_many rfl rfl rfl (by decide +kernel) ⟨Nat.le_of_ble_eq_true rfl, Nat.le_of_ble_eq_true rfl⟩) (pre_V qW_bl (va_recv hKm hPm (ci := 6) (q0 := 0) rfl rfl) (fun U hU hW => ⟨by rw [hU], pW_of hPm hKm hN hU hW⟩)) rfl rfl hl.1 rfl (lv_room (Nat.le_of_ble_eq_true rfl)) dL_law_439 ⟨Nat.le_of_ble_eq_true rfl, Nat.le_of_ble_eq_true rfl⟩) hS ham (fun r2 z H locs hp hP9 hk hS => ?_)
  obtain ⟨n_opn, rfl⟩ : ∃ y, y = z := ⟨_, rfl⟩
  try dsimp only at hp
  have hP9 : va_P gm.1 vwCl (wM gm tr va bt (nI L) (nI nv) tx le fe so nx lf n_opn ow ot pk pa fr zs iy ix wy nw) H := hP9
  have hX2 := PX_kept hX1 (fun j hj => hk _ (PX_lt hX1 hj) (aW_no (fun k hk2 h => hne j k hj hk2 h) (PX_lt hX1 hj)))
  subst hp
  have hM2 : PM gm tr va bt L tx le fe so nx nv H := ⟨_, _, _, _, _, _, _, _, _, _, _, _, hP9⟩
  refine W.lcmp hx hb dL_law_442 ?_
  refine lv_if_eq (tgt := 824) hx hb dL_law_443 (by decide) (fun _ => ?_) (fun c9 => absurd (lg_self _) c9)
  exact kk _ _ ls ⟨_, _, _, _, _, _, _, _, _, _, hX2, hM2, hO⟩ hS hl
set_option maxHeartbeats 1000000 in
set_option maxRecDepth 100000 in
theorem law_lines {p : Program} {l : Launch} {e : Env} {s : State} {m : MethodId} {below : List Frame} {meth : Method} {c : Code} {b Ls : Nat} {xs : Nat → Int32} {gx gm : GW} (C : lwC p s m meth c b Ls xs gx gm) {i : Nat} (hi : i + 8 ≤ Ls) (hL4 : Ls ≤ 4096) {tr : Int64} {va : Nat → Int32} {bt : Nat → Int32} {L : Nat} {tx : Nat → Int32} {le : Nat → Int32} {fe : Nat → Int32} {so : Nat → Int32} {nx : Nat → Int32} {nv : Nat} {H : Heap} {locs : List Loc} (hX : PX gx tr va bt L tx le fe so nx nv H) (hM : PM gm tr va bt L tx le fe so nx nv H) (hO : okC va L le fe so nv) (hS : va_S (fun q => s.heap.size ≤ q) s.heap H locs) {ls : Array Slot} (hl : lv_has ls 4 [(0, .ref b), (1, .ref (gx.2.2 0)), (2, .ref (gm.2.2 0)), (3, .int (nI i))]) (kk : ∀ (H : Heap) (locs : List Loc) (ls : Array Slot), lwE gx gm H → va_S (fun q => s.heap.size ≤ q) s.heap H locs → lv_has ls 4 [(0, .ref b), (1, .ref (gx.2.2 0)), (2, .ref (gm.2.2 0)), (3, .int (nI i))] → W p l e room_1 s m #[Value.ref b] below meth c H locs 44 136235 (lw_Z below #[Value.ref b] s) (F0 m 824 ls [])) : W p l e room_1 s m #[Value.ref b] below meth c H locs 44 136235 (lw_Z below #[Value.ref b] s) (F0 m 448 ls []) := by
  obtain ⟨⟨hx, hb, hr, hml, hown, hts0, hXs, hbl, hlocks, hgv⟩, hK, hKm, hN, hdx, hdm, hne, hax, ham, hst1, hst2⟩ := C
  have hown : s.vm.findClass RL = some m.cls := hown
  obtain ⟨hL2, hnv, hle, hfe, hso, hva⟩ := id hO
  have hts : ∀ w ∈ wsL_law, w.before #[Value.ref b] s = true := fun w h => hts0 w (wsL_law_in w h)
  have hbA : ¬ (fun q : Nat => s.heap.size ≤ q) b := Nat.not_le.mpr hbl
  obtain ⟨st, en, sm, os, ot, bf, kp, ov, rc, ru, ss, wy, nw, re, nr, fo, lt, gr, hP, hrow, hrok⟩ := id hX
  refine lv_aload_n hx hb dL_law_448 rfl (lv_at hl 1 rfl) ?_
  refine lv_aload_n hx hb dL_law_449 rfl (lv_at hl 0 rfl) ?_
  refine lv_iload_n hx hb dL_law_450 rfl (lv_at hl 3 rfl) ?_
  refine lv_iconst (v := nI 1) hx hb dL_law_451 (by decide) ?_
  refine ln_iadd hx hb dL_law_452 ?_
  refine an_sld hx hb hXs hbl hbA hS (by omega) (by omega) dL_law_453 ?_
  refine lv_aload_n hx hb dL_law_454 rfl (lv_at hl 0 rfl) ?_
  refine lv_iload_n hx hb dL_law_455 rfl (lv_at hl 3 rfl) ?_
  refine lv_iconst (v := nI 2) hx hb dL_law_456 (by decide) ?_
  refine ln_iadd hx hb dL_law_457 ?_
  refine an_sld hx hb hXs hbl hbA hS (by omega) (by omega) dL_law_458 ?_
  refine lv_aload_n hx hb dL_law_459 rfl (lv_at hl 0 rfl) ?_
  refine lv_iload_n hx hb dL_law_460 rfl (lv_at hl 3 rfl) ?_
  refine lv_iconst (v := nI 3) hx hb dL_law_461 (by decide) ?_
  refine ln_iadd hx hb dL_law_462 ?_
  refine an_sld hx hb hXs hbl hbA hS (by omega) (by omega) dL_law_463 ?_
  refine lv_aload_n hx hb dL_law_464 rfl (lv_at hl 0 rfl) ?_
  refine lv_iload_n hx hb dL_law_465 rfl (lv_at hl 3 rfl) ?_
  refine lv_iconst (v := nI 4) hx hb dL_law_466 (by decide) ?_
  refine ln_iadd hx hb dL_law_467 ?_
  refine an_sld hx hb hXs hbl hbA hS (by omega) (by omega) dL_law_468 ?_
  refine lx_l (w := (fun (z : (Nat → Int32) × (Nat → Int64) × Int32 × Int32 × Int32) => wX gx tr va bt st en (nI L) (nI (pn bt L)) tx le fe so nx (nI nv) (z.1) os ot bf (z.2.1) (z.2.2.1) (z.2.2.2.1) (z.2.2.2.2) ss wy nw re nr fo lt gr)) (va_runV (As := [.int (xs (i + 1)), .int (xs (i + 2)), .int (xs (i + 3)), .int (xs (i + 4))]) (rest := []) ⟨hx, hb, hml, hown, hts⟩ (c_X5_lines l (g := gx) (asked := tr) (values := va) (bytes := bt) (starts := st) (ends := en) (length := nI L) (parts := nI (pn bt L)) (texts := tx) (lengths := le) (feet := fe) (sorts := so) (nxt := nx) (nv := nv) (sums := sm) (oneSums := os) (otherSums := ot) (byFeet := bf) (kept := kp) (over := ov) (rcount := rc) (rcust := ru) (ssums := ss) (ways := wy) (nextWays := nw) (reached := re) (nextReached := nr) (found := fo) (least := lt) (greatest := gr) (sz := _) (xs (i + 1)) (xs (i + 2)) (xs (i + 3)) (xs (i + 4)) hnv hle hfe hso hva hrok hdx) (cwV 4 hts gL_law_X5_lines rfl rfl rfl (by decide +kernel) ⟨Nat.le_of_ble_eq_true rfl, Nat.le_of_ble_eq_true rfl⟩) (pre_V qW_bl (va_recv hK hP (ci := 5) (q0 := 0) rfl rfl) (fun U hU hW => ⟨by rw [hU], pW_of hP hK hN hU hW⟩)) rfl rfl hl.1 rfl (lv_room (Nat.le_of_ble_eq_true rfl)) dL_law_469 ⟨Nat.le_of_ble_eq_true rfl, Nat.le_of_ble_eq_true rfl⟩) hS hax (fun r1 z H locs hp hP9 hk hS => ?_)
  obtain ⟨n_sums, n_kept, n_over, n_rcount, n_rcust⟩ := z
  try dsimp only at hp
  have hP9 : va_P gx.1 vwCl (wX gx tr va bt st en (nI L) (nI (pn bt L)) tx le fe so nx (nI nv) n_sums os ot bf n_kept n_over n_rcount n_rcust ss wy nw re nr fo lt gr) H := hP9
  have hM1 : PM gm tr va bt L tx le fe so nx nv H := PM_kept hM (fun j hj => hk _ (PM_lt hM hj) (aW_no (fun k hk2 h => hne k j hk2 hj h.symm) (PM_lt hM hj)))
  obtain ⟨hp, hrok9⟩ := hp
  subst hp
  have hX1 : PX gx tr va bt L tx le fe so nx nv H := ⟨_, _, _, _, _, _, _, _, _, _, _, _, _, _, _, _, _, _, hP9, hrow, hrok9⟩
  obtain ⟨lf, op, ow, ot, pk, pa, fr, zs, iy, ix, wy, nw, hPm⟩ := id hM1
  refine lv_aload_n hx hb dL_law_472 rfl (lv_at hl 2 rfl) ?_
  refine lv_aload_n hx hb dL_law_473 rfl (lv_at hl 0 rfl) ?_
  refine lv_iload_n hx hb dL_law_474 rfl (lv_at hl 3 rfl) ?_
  refine lv_iconst (v := nI 1) hx hb dL_law_475 (by decide) ?_
  refine ln_iadd hx hb dL_law_476 ?_
  refine an_sld hx hb hXs hbl hbA hS (by omega) (by omega) dL_law_477 ?_
  refine lv_aload_n hx hb dL_law_478 rfl (lv_at hl 0 rfl) ?_
  refine lv_iload_n hx hb dL_law_479 rfl (lv_at hl 3 rfl) ?_
  refine lv_iconst (v := nI 2) hx hb dL_law_480 (by decide) ?_
  refine ln_iadd hx hb dL_law_481 ?_
  refine an_sld hx hb hXs hbl hbA hS (by omega) (by omega) dL_law_482 ?_
  refine lv_aload_n hx hb dL_law_483 rfl (lv_at hl 0 rfl) ?_
  refine lv_iload_n hx hb dL_law_484 rfl (lv_at hl 3 rfl) ?_
  refine lv_iconst (v := nI 3) hx hb dL_law_485 (by decide) ?_
  refine ln_iadd hx hb dL_law_486 ?_
  refine an_sld hx hb hXs hbl hbA hS (by omega) (by omega) dL_law_487 ?_
  refine lv_aload_n hx hb dL_law_488 rfl (lv_at hl 0 rfl) ?_
  refine lv_iload_n hx hb dL_law_489 rfl (lv_at hl 3 rfl) ?_
  refine lv_iconst (v := nI 4) hx hb dL_law_490 (by decide) ?_
  refine ln_iadd hx hb dL_law_491 ?_
  refine an_sld hx hb hXs hbl hbA hS (by omega) (by omega) dL_law_492 ?_
  refine lx_l (w := (fun (z : (Nat → Int32) × (Nat → Int64)) => wM gm tr va bt (nI L) (nI nv) tx le fe so nx (z.2) op (z.1) ot pk pa fr zs iy ix wy nw)) (va_runV (As := [.int (xs (i + 1)), .int (xs (i + 2)), .int (xs (i + 3)), .int (xs (i + 4))]) (rest := [.long ((if lok ((xs (i + 1))) ((xs (i + 2))) ((xs (i + 3))) ((xs (i + 4))) then lN (lwy fe so nx (owf va tx le (tn ((xs (i + 3)))) (tn ((xs (i + 4))))) nv (tn ((xs (i + 1)))) 3 (tn ((xs (i + 2))))) else (-1 : Int64)))]) ⟨hx, hb, hml, hown, hts⟩ (c_X6_lines l (g := gm) (trace := tr) (value := va) (draft := bt) (typed := nI L) (nv := nv) (letter := tx) (long1 := le) (feet := fe) (sort := so) (order := nx) (left := lf) (opn := op) (own := ow) (other := ot) (pick := pk) (parts := pa) (frm := fr) (size := zs) (isYear := iy) (isNext := ix) (ways := wy) (nextWays := nw) (sz := _) (xs (i + 1)) (xs (i + 2)) (xs (i + 3)) (xs (i + 4)) hnv hle hfe hso hva hdm) (cwV 4 hts gL_law_X6_lines rfl rfl rfl (by decide +kernel) ⟨Nat.le_of_ble_eq_true rfl, Nat.le_of_ble_eq_true rfl⟩) (pre_V qW_bl (va_recv hKm hPm (ci := 6) (q0 := 0) rfl rfl) (fun U hU hW => ⟨by rw [hU], pW_of hPm hKm hN hU hW⟩)) rfl rfl hl.1 rfl (lv_room (Nat.le_of_ble_eq_true rfl)) dL_law_493 ⟨Nat.le_of_ble_eq_true rfl, Nat.le_of_ble_eq_true rfl⟩) hS ham (fun r2 z H locs hp hP9 hk hS => ?_)
  obtain ⟨n_own, n_left⟩ := z
  try dsimp only at hp
  have hP9 : va_P gm.1 vwCl (wM gm tr va bt (nI L) (nI nv) tx le fe so nx n_left op n_own ot pk pa fr zs iy ix wy nw) H := hP9
  have hX2 := PX_kept hX1 (fun j hj => hk _ (PX_lt hX1 hj) (aW_no (fun k hk2 h => hne j k hj hk2 h) (PX_lt hX1 hj)))
  subst hp
  have hM2 : PM gm tr va bt L tx le fe so nx nv H := ⟨_, _, _, _, _, _, _, _, _, _, _, _, hP9⟩
  refine W.lcmp hx hb dL_law_496 ?_
  refine lv_if_eq (tgt := 824) hx hb dL_law_497 (by decide) (fun _ => ?_) (fun c9 => absurd (lg_self _) c9)
  exact kk _ _ ls ⟨_, _, _, _, _, _, _, _, _, _, hX2, hM2, hO⟩ hS hl
set_option maxHeartbeats 1000000 in
set_option maxRecDepth 100000 in
theorem law_line {p : Program} {l : Launch} {e : Env} {s : State} {m : MethodId} {below : List Frame} {meth : Method} {c : Code} {b Ls : Nat} {xs : Nat → Int32} {gx gm : GW} (C : lwC p s m meth c b Ls xs gx gm) {i : Nat} (hi : i + 8 ≤ Ls) (hL4 : Ls ≤ 4096) {tr : Int64} {va : Nat → Int32} {bt : Nat → Int32} {L : Nat} {tx : Nat → Int32} {le : Nat → Int32} {fe : Nat → Int32} {so : Nat → Int32} {nx : Nat → Int32} {nv : Nat} {H : Heap} {locs : List Loc} (hX : PX gx tr va bt L tx le fe so nx nv H) (hM : PM gm tr va bt L tx le fe so nx nv H) (hO : okC va L le fe so nv) (hS : va_S (fun q => s.heap.size ≤ q) s.heap H locs) {ls : Array Slot} (hl : lv_has ls 4 [(0, .ref b), (1, .ref (gx.2.2 0)), (2, .ref (gm.2.2 0)), (3, .int (nI i))]) (kk : ∀ (H : Heap) (locs : List Loc) (ls : Array Slot), lwE gx gm H → va_S (fun q => s.heap.size ≤ q) s.heap H locs → lv_has ls 4 [(0, .ref b), (1, .ref (gx.2.2 0)), (2, .ref (gm.2.2 0)), (3, .int (nI i))] → W p l e room_1 s m #[Value.ref b] below meth c H locs 44 136235 (lw_Z below #[Value.ref b] s) (F0 m 824 ls [])) : W p l e room_1 s m #[Value.ref b] below meth c H locs 44 136235 (lw_Z below #[Value.ref b] s) (F0 m 502 ls []) := by
  obtain ⟨⟨hx, hb, hr, hml, hown, hts0, hXs, hbl, hlocks, hgv⟩, hK, hKm, hN, hdx, hdm, hne, hax, ham, hst1, hst2⟩ := C
  have hown : s.vm.findClass RL = some m.cls := hown
  obtain ⟨hL2, hnv, hle, hfe, hso, hva⟩ := id hO
  have hts : ∀ w ∈ wsL_law, w.before #[Value.ref b] s = true := fun w h => hts0 w (wsL_law_in w h)
  have hbA : ¬ (fun q : Nat => s.heap.size ≤ q) b := Nat.not_le.mpr hbl
  obtain ⟨st, en, sm, os, ot, bf, kp, ov, rc, ru, ss, wy, nw, re, nr, fo, lt, gr, hP, hrow, hrok⟩ := id hX
  refine lv_aload_n hx hb dL_law_502 rfl (lv_at hl 1 rfl) ?_
  refine lv_aload_n hx hb dL_law_503 rfl (lv_at hl 0 rfl) ?_
  refine lv_iload_n hx hb dL_law_504 rfl (lv_at hl 3 rfl) ?_
  refine lv_iconst (v := nI 1) hx hb dL_law_505 (by decide) ?_
  refine ln_iadd hx hb dL_law_506 ?_
  refine an_sld hx hb hXs hbl hbA hS (by omega) (by omega) dL_law_507 ?_
  refine lv_aload_n hx hb dL_law_508 rfl (lv_at hl 0 rfl) ?_
  refine lv_iload_n hx hb dL_law_509 rfl (lv_at hl 3 rfl) ?_
  refine lv_iconst (v := nI 2) hx hb dL_law_510 (by decide) ?_
  refine ln_iadd hx hb dL_law_511 ?_
  refine an_sld hx hb hXs hbl hbA hS (by omega) (by omega) dL_law_512 ?_
  refine lv_aload_n hx hb dL_law_513 rfl (lv_at hl 0 rfl) ?_
  refine lv_iload_n hx hb dL_law_514 rfl (lv_at hl 3 rfl) ?_
  refine lv_iconst (v := nI 3) hx hb dL_law_515 (by decide) ?_
  refine ln_iadd hx hb dL_law_516 ?_
  refine an_sld hx hb hXs hbl hbA hS (by omega) (by omega) dL_law_517 ?_
  refine lv_aload_n hx hb dL_law_518 rfl (lv_at hl 0 rfl) ?_
  refine lv_iload_n hx hb dL_law_519 rfl (lv_at hl 3 rfl) ?_
  refine lv_iconst (v := nI 4) hx hb dL_law_520 (by decide) ?_
  refine ln_iadd hx hb dL_law_521 ?_
  refine an_sld hx hb hXs hbl hbA hS (by omega) (by omega) dL_law_522 ?_
  refine lv_aload_n hx hb dL_law_523 rfl (lv_at hl 0 rfl) ?_
  refine lv_iload_n hx hb dL_law_524 rfl (lv_at hl 3 rfl) ?_
  refine lv_iconst (v := nI 5) hx hb dL_law_525 (by decide) ?_
  refine ln_iadd hx hb dL_law_526 ?_
  refine an_sld hx hb hXs hbl hbA hS (by omega) (by omega) dL_law_527 ?_
  refine lv_i2l hx hb dL_law_528 rfl ?_
  refine lv_bipush (v := nI 32) hx hb dL_law_529 (by decide) ?_
  refine lv_lshl hx hb dL_law_531 rfl ?_
  refine lv_aload_n hx hb dL_law_532 rfl (lv_at hl 0 rfl) ?_
  refine lv_iload_n hx hb dL_law_533 rfl (lv_at hl 3 rfl) ?_
  refine lv_bipush (v := nI 6) hx hb dL_law_534 (by decide) ?_
  refine ln_iadd hx hb dL_law_536 ?_
  refine an_sld hx hb hXs hbl hbA hS (by omega) (by omega) dL_law_537 ?_
  refine lv_i2l hx hb dL_law_538 rfl ?_
  refine lv_ldc2 hx hb hown (hts (.constantLong RL 23 (4294967295)) (by decide +kernel)) dL_law_539 ?_
  refine ln_tol (y := lN 4294967295) (by decide) ?_
  refine lv_land hx hb dL_law_542 ?_
  refine lv_lor hx hb dL_law_543 ?_
  refine ln_tol (y := lgA (xs (i + 5)) (xs (i + 6))) rfl ?_
  refine lv_aload_n hx hb dL_law_544 rfl (lv_at hl 0 rfl) ?_
  refine lv_iload_n hx hb dL_law_545 rfl (lv_at hl 3 rfl) ?_
  refine lv_bipush (v := nI 7) hx hb dL_law_546 (by decide) ?_
  refine ln_iadd hx hb dL_law_548 ?_
  refine an_sld hx hb hXs hbl hbA hS (by omega) (by omega) dL_law_549 ?_
  refine lx_i (w := (fun (z : (Nat → Int32) × (Nat → Int64) × Int32 × Int32 × Int32) => wX gx tr va bt st en (nI L) (nI (pn bt L)) tx le fe so nx (nI nv) (z.1) os ot bf (z.2.1) (z.2.2.1) (z.2.2.2.1) (z.2.2.2.2) ss wy nw re nr fo lt gr)) (va_runV (As := [.int (xs (i + 1)), .int (xs (i + 2)), .int (xs (i + 3)), .int (xs (i + 4)), .long (lgA (xs (i + 5)) (xs (i + 6))), .int (xs (i + 7))]) (rest := []) ⟨hx, hb, hml, hown, hts⟩ (c_X5_line l (g := gx) (asked := tr) (values := va) (bytes := bt) (starts := st) (ends := en) (length := nI L) (parts := nI (pn bt L)) (texts := tx) (lengths := le) (feet := fe) (sorts := so) (nxt := nx) (nv := nv) (sums := sm) (oneSums := os) (otherSums := ot) (byFeet := bf) (kept := kp) (over := ov) (rcount := rc) (rcust := ru) (ssums := ss) (ways := wy) (nextWays := nw) (reached := re) (nextReached := nr) (found := fo) (least := lt) (greatest := gr) (sz := _) (xs (i + 1)) (xs (i + 2)) (xs (i + 3)) (xs (i + 4)) (lgA (xs (i + 5)) (xs (i + 6))) (xs (i + 7)) hnv hle hfe hso hva hrok hdx) (cwV 6 hts gL_law_X5_line rfl rfl rfl (by decide +kernel) ⟨Nat.le_of_ble_eq_true rfl, Nat.le_of_ble_eq_true rfl⟩) (pre_V qW_bl (va_recv hK hP (ci := 5) (q0 := 0) rfl rfl) (fun U hU hW => ⟨by rw [hU], pW_of hP hK hN hU hW⟩)) rfl rfl hl.1 rfl (lv_room (Nat.le_of_ble_eq_true rfl)) dL_law_550 ⟨Nat.le_of_ble_eq_true rfl, Nat.le_of_ble_eq_true rfl⟩) hS hax (fun r1 z H locs hp hP9 hk hS => ?_)
  obtain ⟨n_sums, n_kept, n_over, n_rcount, n_rcust⟩ := z
  try dsimp only at hp
  have hP9 : va_P gx.1 vwCl (wX gx tr va bt st en (nI L) (nI (pn bt L)) tx le fe so nx (nI nv) n_sums os ot bf n_kept n_over n_rcount n_rcust ss wy nw re nr fo lt gr) H := hP9
  have hM1 : PM gm tr va bt L tx le fe so nx nv H := PM_kept hM (fun j hj => hk _ (PM_lt hM hj) (aW_no (fun k hk2 h => hne k j hk2 hj h.symm) (PM_lt hM hj)))
  obtain ⟨hp, hrok9⟩ := hp
  subst hp
  have hX1 : PX gx tr va bt L tx le fe so nx nv H := ⟨_, _, _, _, _, _, _, _, _, _, _, _, _, _, _, _, _, _, hP9, hrow, hrok9⟩
  obtain ⟨lf, op, ow, ot, pk, pa, fr, zs, iy, ix, wy, nw, hPm⟩ := id hM1
  refine lv_aload_n hx hb dL_law_553 rfl (lv_at hl 2 rfl) ?_
  refine lv_aload_n hx hb dL_law_554 rfl (lv_at hl 0 rfl) ?_
  refine lv_iload_n hx hb dL_law_555 rfl (lv_at hl 3 rfl) ?_
  refine lv_iconst (v := nI 1) hx hb dL_law_556 (by decide) ?_
  refine ln_iadd hx hb dL_law_557 ?_
  refine an_sld hx hb hXs hbl hbA hS (by omega) (by omega) dL_law_558 ?_
  refine lv_aload_n hx hb dL_law_559 rfl (lv_at hl 0 rfl) ?_
  refine lv_iload_n hx hb dL_law_560 rfl (lv_at hl 3 rfl) ?_
  refine lv_iconst (v := nI 2) hx hb dL_law_561 (by decide) ?_
  refine ln_iadd hx hb dL_law_562 ?_
  refine an_sld hx hb hXs hbl hbA hS (by omega) (by omega) dL_law_563 ?_
  refine lv_aload_n hx hb dL_law_564 rfl (lv_at hl 0 rfl) ?_
  refine lv_iload_n hx hb dL_law_565 rfl (lv_at hl 3 rfl) ?_
  refine lv_iconst (v := nI 3) hx hb dL_law_566 (by decide) ?_
  refine ln_iadd hx hb dL_law_567 ?_
  refine an_sld hx hb hXs hbl hbA hS (by omega) (by omega) dL_law_568 ?_
  refine lv_aload_n hx hb dL_law_569 rfl (lv_at hl 0 rfl) ?_
  refine lv_iload_n hx hb dL_law_570 rfl (lv_at hl 3 rfl) ?_
  refine lv_iconst (v := nI 4) hx hb dL_law_571 (by decide) ?_
  refine ln_iadd hx hb dL_law_572 ?_
  refine an_sld hx hb hXs hbl hbA hS (by omega) (by omega) dL_law_573 ?_
  refine lv_aload_n hx hb dL_law_574 rfl (lv_at hl 0 rfl) ?_
  refine lv_iload_n hx hb dL_law_575 rfl (lv_at hl 3 rfl) ?_
  refine lv_iconst (v := nI 5) hx hb dL_law_576 (by decide) ?_
  refine ln_iadd hx hb dL_law_577 ?_
  refine an_sld hx hb hXs hbl hbA hS (by omega) (by omega) dL_law_578 ?_
  refine lv_i2l hx hb dL_law_579 rfl ?_
  refine lv_bipush (v := nI 32) hx hb dL_law_580 (by decide) ?_
  refine lv_lshl hx hb dL_law_582 rfl ?_
  refine lv_aload_n hx hb dL_law_583 rfl (lv_at hl 0 rfl) ?_
  refine lv_iload_n hx hb dL_law_584 rfl (lv_at hl 3 rfl) ?_
  refine lv_bipush (v := nI 6) hx hb dL_law_585 (by decide) ?_
  refine ln_iadd hx hb dL_law_587 ?_
  refine an_sld hx hb hXs hbl hbA hS (by omega) (by omega) dL_law_588 ?_
  refine lv_i2l hx hb dL_law_589 rfl ?_
  refine lv_ldc2 hx hb hown (hts (.constantLong RL 23 (4294967295)) (by decide +kernel)) dL_law_590 ?_
  refine ln_tol (y := lN 4294967295) (by decide) ?_
  refine lv_land hx hb dL_law_593 ?_
  refine lv_lor hx hb dL_law_594 ?_
  refine ln_tol (y := lgA (xs (i + 5)) (xs (i + 6))) rfl ?_
  refine lv_aload_n hx hb dL_law_595 rfl (lv_at hl 0 rfl) ?_
  refine lv_iload_n hx hb dL_law_596 rfl (lv_at hl 3 rfl) ?_
  refine lv_bipush (v := nI 7) hx hb dL_law_597 (by decide) ?_
  refine ln_iadd hx hb dL_law_599 ?_
  refine an_sld hx hb hXs hbl hbA hS (by omega) (by omega) dL_law_600 ?_
  refine lx_i (w := (fun (z : (Nat → Int32) × (Nat → Int64)) => wM gm tr va bt (nI L) (nI nv) tx le fe so nx (z.2) op (z.1) ot pk pa fr zs iy ix wy nw)) (va_runV (As := [.int (xs (i + 1)), .int (xs (i + 2)), .int (xs (i + 3)), .int (xs (i + 4)), .long (lgA (xs (i + 5)) (xs (i + 6))), .int (xs (i + 7))]) (rest := [.int ((if lok ((xs (i + 1))) ((xs (i + 2))) ((xs (i + 3))) ((xs (i + 4))) then aLine fe so nx (owf va tx le (tn ((xs (i + 3)))) (tn ((xs (i + 4))))) nv ((xs (i + 1))) ((xs (i + 2))) ((lgA (xs (i + 5)) (xs (i + 6)))) ((xs (i + 7))) else (-2 : Int32)))]) ⟨hx, hb, hml, hown, hts⟩ (c_X6_line l (g := gm) (trace := tr) (value := va) (draft := bt) (typed := nI L) (nv := nv) (letter := tx) (long1 := le) (feet := fe) (sort := so) (order := nx) (left := lf) (opn := op) (own := ow) (other := ot) (pick := pk) (parts := pa) (frm := fr) (size := zs) (isYear := iy) (isNext := ix) (ways := wy) (nextWays := nw) (sz := _) (xs (i + 1)) (xs (i + 2)) (xs (i + 3)) (xs (i + 4)) (lgA (xs (i + 5)) (xs (i + 6))) (xs (i + 7)) hnv hle hfe hso hva hdm) (cwV 6 hts gL_law_X6_line rfl rfl rfl (by decide +kernel) ⟨Nat.le_of_ble_eq_true rfl, Nat.le_of_ble_eq_true rfl⟩) (pre_V qW_bl (va_recv hKm hPm (ci := 6) (q0 := 0) rfl rfl) (fun U hU hW => ⟨by rw [hU], pW_of hPm hKm hN hU hW⟩)) rfl rfl hl.1 rfl (lv_room (Nat.le_of_ble_eq_true rfl)) dL_law_601 ⟨Nat.le_of_ble_eq_true rfl, Nat.le_of_ble_eq_true rfl⟩) hS ham (fun r2 z H locs hp hP9 hk hS => ?_)
  obtain ⟨n_own, n_left⟩ := z
  try dsimp only at hp
  have hP9 : va_P gm.1 vwCl (wM gm tr va bt (nI L) (nI nv) tx le fe so nx n_left op n_own ot pk pa fr zs iy ix wy nw) H := hP9
  have hX2 := PX_kept hX1 (fun j hj => hk _ (PX_lt hX1 hj) (aW_no (fun k hk2 h => hne j k hj hk2 h) (PX_lt hX1 hj)))
  subst hp
  have hM2 : PM gm tr va bt L tx le fe so nx nv H := ⟨_, _, _, _, _, _, _, _, _, _, _, _, hP9⟩
  refine lv_icmp_eq (tgt := 824) hx hb dL_law_604 (by decide) (fun _ => ?_) (fun c9 => absurd rfl c9)
  exact kk _ _ ls ⟨_, _, _, _, _, _, _, _, _, _, hX2, hM2, hO⟩ hS hl
set_option maxHeartbeats 1000000 in
set_option maxRecDepth 100000 in
theorem law_doubles {p : Program} {l : Launch} {e : Env} {s : State} {m : MethodId} {below : List Frame} {meth : Method} {c : Code} {b Ls : Nat} {xs : Nat → Int32} {gx gm : GW} (C : lwC p s m meth c b Ls xs gx gm) {i : Nat} (hi : i + 8 ≤ Ls) (hL4 : Ls ≤ 4096) {tr : Int64} {va : Nat → Int32} {bt : Nat → Int32} {L : Nat} {tx : Nat → Int32} {le : Nat → Int32} {fe : Nat → Int32} {so : Nat → Int32} {nx : Nat → Int32} {nv : Nat} {H : Heap} {locs : List Loc} (hX : PX gx tr va bt L tx le fe so nx nv H) (hM : PM gm tr va bt L tx le fe so nx nv H) (hO : okC va L le fe so nv) (hS : va_S (fun q => s.heap.size ≤ q) s.heap H locs) {ls : Array Slot} (hl : lv_has ls 4 [(0, .ref b), (1, .ref (gx.2.2 0)), (2, .ref (gm.2.2 0)), (3, .int (nI i))]) (kk : ∀ (H : Heap) (locs : List Loc) (ls : Array Slot), lwE gx gm H → va_S (fun q => s.heap.size ≤ q) s.heap H locs → lv_has ls 4 [(0, .ref b), (1, .ref (gx.2.2 0)), (2, .ref (gm.2.2 0)), (3, .int (nI i))] → W p l e room_1 s m #[Value.ref b] below meth c H locs 44 136235 (lw_Z below #[Value.ref b] s) (F0 m 824 ls [])) : W p l e room_1 s m #[Value.ref b] below meth c H locs 44 136235 (lw_Z below #[Value.ref b] s) (F0 m 609 ls []) := by
  obtain ⟨⟨hx, hb, hr, hml, hown, hts0, hXs, hbl, hlocks, hgv⟩, hK, hKm, hN, hdx, hdm, hne, hax, ham, hst1, hst2⟩ := C
  have hown : s.vm.findClass RL = some m.cls := hown
  obtain ⟨hL2, hnv, hle, hfe, hso, hva⟩ := id hO
  have hts : ∀ w ∈ wsL_law, w.before #[Value.ref b] s = true := fun w h => hts0 w (wsL_law_in w h)
  have hbA : ¬ (fun q : Nat => s.heap.size ≤ q) b := Nat.not_le.mpr hbl
  obtain ⟨st, en, sm, os, ot, bf, kp, ov, rc, ru, ss, wy, nw, re, nr, fo, lt, gr, hP, hrow, hrok⟩ := id hX
  refine lv_aload_n hx hb dL_law_609 rfl (lv_at hl 1 rfl) ?_
  refine lv_aload_n hx hb dL_law_610 rfl (lv_at hl 0 rfl) ?_
  refine lv_iload_n hx hb dL_law_611 rfl (lv_at hl 3 rfl) ?_
  refine lv_iconst (v := nI 1) hx hb dL_law_612 (by decide) ?_
  refine ln_iadd hx hb dL_law_613 ?_
  refine an_sld hx hb hXs hbl hbA hS (by omega) (by omega) dL_law_614 ?_
  refine lv_aload_n hx hb dL_law_615 rfl (lv_at hl 0 rfl) ?_
  refine lv_iload_n hx hb dL_law_616 rfl (lv_at hl 3 rfl) ?_
  refine lv_iconst (v := nI 2) hx hb dL_law_617 (by decide) ?_
  refine ln_iadd hx hb dL_law_618 ?_
  refine an_sld hx hb hXs hbl hbA hS (by omega) (by omega) dL_law_619 ?_
  refine lv_aload_n hx hb dL_law_620 rfl (lv_at hl 0 rfl) ?_
  refine lv_iload_n hx hb dL_law_621 rfl (lv_at hl 3 rfl) ?_
  refine lv_iconst (v := nI 3) hx hb dL_law_622 (by decide) ?_
  refine ln_iadd hx hb dL_law_623 ?_
  refine an_sld hx hb hXs hbl hbA hS (by omega) (by omega) dL_law_624 ?_
  refine lv_aload_n hx hb dL_law_625 rfl (lv_at hl 0 rfl) ?_
  refine lv_iload_n hx hb dL_law_626 rfl (lv_at hl 3 rfl) ?_
  refine lv_iconst (v := nI 4) hx hb dL_law_627 (by decide) ?_
  refine ln_iadd hx hb dL_law_628 ?_
  refine an_sld hx hb hXs hbl hbA hS (by omega) (by omega) dL_law_629 ?_
  refine lv_aload_n hx hb dL_law_630 rfl (lv_at hl 0 rfl) ?_
  refine lv_iload_n hx hb dL_law_631 rfl (lv_at hl 3 rfl) ?_
  refine lv_iconst (v := nI 5) hx hb dL_law_632 (by decide) ?_
  refine ln_iadd hx hb dL_law_633 ?_
  refine an_sld hx hb hXs hbl hbA hS (by omega) (by omega) dL_law_634 ?_
  refine lv_aload_n hx hb dL_law_635 rfl (lv_at hl 0 rfl) ?_
  refine lv_iload_n hx hb dL_law_636 rfl (lv_at hl 3 rfl) ?_
  refine lv_bipush (v := nI 6) hx hb dL_law_637 (by decide) ?_
  refine ln_iadd hx hb dL_law_639 ?_
  refine an_sld hx hb hXs hbl hbA hS (by omega) (by omega) dL_law_640 ?_
  refine lx_l (w := (fun (z : (Nat → Int32) × (Nat → Int32)) => wX gx tr va bt st en (nI L) (nI (pn bt L)) tx le fe so nx (nI nv) sm (z.1) (z.2) bf kp ov rc ru ss wy nw re nr fo lt gr)) (va_runV (As := [.int (xs (i + 1)), .int (xs (i + 2)), .int (xs (i + 3)), .int (xs (i + 4)), .int (xs (i + 5)), .int (xs (i + 6))]) (rest := []) ⟨hx, hb, hml, hown, hts⟩ (c_X5_doubles l (g := gx) (asked := tr) (values := va) (bytes := bt) (starts := st) (ends := en) (length := nI L) (parts := nI (pn bt L)) (texts := tx) (lengths := le) (feet := fe) (sorts := so) (nxt := nx) (nv := nv) (sums := sm) (oneSums := os) (otherSums := ot) (byFeet := bf) (kept := kp) (over := ov) (rcount := rc) (rcust := ru) (ssums := ss) (ways := wy) (nextWays := nw) (reached := re) (nextReached := nr) (found := fo) (least := lt) (greatest := gr) (sz := _) (xs (i + 1)) (xs (i + 2)) (xs (i + 3)) (xs (i + 4)) (xs (i + 5)) (xs (i + 6)) hnv hle hfe hso hva hdx) (cwV 6 hts gL_law_X5_doubles rfl rfl rfl (by decide +kernel) ⟨Nat.le_of_ble_eq_true rfl, Nat.le_of_ble_eq_true rfl⟩) (pre_V qW_bl (va_recv hK hP (ci := 5) (q0 := 0) rfl rfl) (fun U hU hW => ⟨by rw [hU], pW_of hP hK hN hU hW⟩)) rfl rfl hl.1 rfl (lv_room (Nat.le_of_ble_eq_true rfl)) dL_law_641 ⟨Nat.le_of_ble_eq_true rfl, Nat.le_of_ble_eq_true rfl⟩) hS hax (fun r1 z H locs hp hP9 hk hS => ?_)
  obtain ⟨n_oneSums, n_otherSums⟩ := z
  try dsimp only at hp
  have hP9 : va_P gx.1 vwCl (wX gx tr va bt st en (nI L) (nI (pn bt L)) tx le fe so nx (nI nv) sm n_oneSums n_otherSums bf kp ov rc ru ss wy nw re nr fo lt gr) H := hP9
  have hM1 : PM gm tr va bt L tx le fe so nx nv H := PM_kept hM (fun j hj => hk _ (PM_lt hM hj) (aW_no (fun k hk2 h => hne k j hk2 hj h.symm) (PM_lt hM hj)))
  subst hp
  have hX1 : PX gx tr va bt L tx le fe so nx nv H := ⟨_, _, _, _, _, _, _, _, _, _, _, _, _, _, _, _, _, _, hP9, hrow, hrok⟩
  obtain ⟨lf, op, ow, ot, pk, pa, fr, zs, iy, ix, wy, nw, hPm⟩ := id hM1
  refine lv_aload_n hx hb dL_law_644 rfl (lv_at hl 2 rfl) ?_
  refine lv_aload_n hx hb dL_law_645 rfl (lv_at hl 0 rfl) ?_
  refine lv_iload_n hx hb dL_law_646 rfl (lv_at hl 3 rfl) ?_
  refine lv_iconst (v := nI 1) hx hb dL_law_647 (by decide) ?_
  refine ln_iadd hx hb dL_law_648 ?_
  refine an_sld hx hb hXs hbl hbA hS (by omega) (by omega) dL_law_649 ?_
  refine lv_aload_n hx hb dL_law_650 rfl (lv_at hl 0 rfl) ?_
  refine lv_iload_n hx hb dL_law_651 rfl (lv_at hl 3 rfl) ?_
  refine lv_iconst (v := nI 2) hx hb dL_law_652 (by decide) ?_
  refine ln_iadd hx hb dL_law_653 ?_
  refine an_sld hx hb hXs hbl hbA hS (by omega) (by omega) dL_law_654 ?_
  refine lv_aload_n hx hb dL_law_655 rfl (lv_at hl 0 rfl) ?_
  refine lv_iload_n hx hb dL_law_656 rfl (lv_at hl 3 rfl) ?_
  refine lv_iconst (v := nI 3) hx hb dL_law_657 (by decide) ?_
  refine ln_iadd hx hb dL_law_658 ?_
  refine an_sld hx hb hXs hbl hbA hS (by omega) (by omega) dL_law_659 ?_
  refine lv_aload_n hx hb dL_law_660 rfl (lv_at hl 0 rfl) ?_
  refine lv_iload_n hx hb dL_law_661 rfl (lv_at hl 3 rfl) ?_
  refine lv_iconst (v := nI 4) hx hb dL_law_662 (by decide) ?_
  refine ln_iadd hx hb dL_law_663 ?_
  refine an_sld hx hb hXs hbl hbA hS (by omega) (by omega) dL_law_664 ?_
  refine lv_aload_n hx hb dL_law_665 rfl (lv_at hl 0 rfl) ?_
  refine lv_iload_n hx hb dL_law_666 rfl (lv_at hl 3 rfl) ?_
  refine lv_iconst (v := nI 5) hx hb dL_law_667 (by decide) ?_
  refine ln_iadd hx hb dL_law_668 ?_
  refine an_sld hx hb hXs hbl hbA hS (by omega) (by omega) dL_law_669 ?_
  refine lv_aload_n hx hb dL_law_670 rfl (lv_at hl 0 rfl) ?_
  refine lv_iload_n hx hb dL_law_671 rfl (lv_at hl 3 rfl) ?_
  refine lv_bipush (v := nI 6) hx hb dL_law_672 (by decide) ?_
  refine ln_iadd hx hb dL_law_674 ?_
  refine an_sld hx hb hXs hbl hbA hS (by omega) (by omega) dL_law_675 ?_
  refine lx_l (w := (fun (z : (Nat → Int32) × (Nat → Int32) × (Nat → Int32)) => wM gm tr va bt (nI L) (nI nv) tx le fe so nx lf op (z.1) (z.2.1) (z.2.2) pa fr zs iy ix wy nw)) (va_runV (As := [.int (xs (i + 1)), .int (xs (i + 2)), .int (xs (i + 3)), .int (xs (i + 4)), .int (xs (i + 5)), .int (xs (i + 6))]) (rest := [.long (if dok ((xs (i + 1))) ((xs (i + 2))) ((xs (i + 3))) ((xs (i + 4))) ((xs (i + 5))) ((xs (i + 6))) then lN (dwy fe so nx (owf va tx le (tn ((xs (i + 4)))) (tn ((xs (i + 5))))) (owf va tx le (tn ((xs (i + 4)))) (tn ((xs (i + 6))))) nv (tn ((xs (i + 1)))) 3 (tn ((xs (i + 2)))) (tn ((xs (i + 3))))) else (-1 : Int64))]) ⟨hx, hb, hml, hown, hts⟩ (c_X6_doubles l (g := gm) (trace := tr) (value := va) (draft := bt) (typed := nI L) (nv := nv) (letter := tx) (long1 := le) (feet := fe) (sort := so) (order := nx) (left := lf) (opn := op) (own := ow) (other := ot) (pick := pk) (parts := pa) (frm := fr) (size := zs) (isYear := iy) (isNext := ix) (ways := wy) (nextWays := nw) (sz := _) (xs (i + 1)) (xs (i + 2)) (xs (i + 3)) (xs (i + 4)) (xs (i + 5)) (xs (i + 6)) hnv hle hfe hso hva hdm) (cwV 6 hts gL_law_X6_doubles rfl rfl rfl (by decide +kernel) ⟨Nat.le_of_ble_eq_true rfl, Nat.le_of_ble_eq_true rfl⟩) (pre_V qW_bl (va_recv hKm hPm (ci := 6) (q0 := 0) rfl rfl) (fun U hU hW => ⟨by rw [hU], pW_of hPm hKm hN hU hW⟩)) rfl rfl hl.1 rfl (lv_room (Nat.le_of_ble_eq_true rfl)) dL_law_676 ⟨Nat.le_of_ble_eq_true rfl, Nat.le_of_ble_eq_true rfl⟩) hS ham (fun r2 z H locs hp hP9 hk hS => ?_)
  obtain ⟨n_own, n_other, n_pick⟩ := z
  try dsimp only at hp
  have hP9 : va_P gm.1 vwCl (wM gm tr va bt (nI L) (nI nv) tx le fe so nx lf op n_own n_other n_pick pa fr zs iy ix wy nw) H := hP9
  have hX2 := PX_kept hX1 (fun j hj => hk _ (PX_lt hX1 hj) (aW_no (fun k hk2 h => hne j k hj hk2 h) (PX_lt hX1 hj)))
  subst hp
  have hM2 : PM gm tr va bt L tx le fe so nx nv H := ⟨_, _, _, _, _, _, _, _, _, _, _, _, hP9⟩
  refine W.lcmp hx hb dL_law_679 ?_
  refine lv_if_eq (tgt := 824) hx hb dL_law_680 (by decide) (fun _ => ?_) (fun c9 => absurd (lg_self _) c9)
  exact kk _ _ ls ⟨_, _, _, _, _, _, _, _, _, _, hX2, hM2, hO⟩ hS hl
