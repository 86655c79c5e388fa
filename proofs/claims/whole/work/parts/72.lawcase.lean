set_option maxHeartbeats 1000000 in
set_option maxRecDepth 100000 in
theorem law_fit {p : Program} {l : Launch} {e : Env} {s : State} {m : MethodId} {below : List Frame} {meth : Method} {c : Code} {b Ls : Nat} {xs : Nat → Int32} {gx gm : GW} (C : lwC p s m meth c b Ls xs gx gm) {i : Nat} (hi : i + 8 ≤ Ls) (hL4 : Ls ≤ 4096) {tr : Int64} {va : Nat → Int32} {bt : Nat → Int32} {L : Nat} {tx : Nat → Int32} {le : Nat → Int32} {fe : Nat → Int32} {so : Nat → Int32} {nx : Nat → Int32} {nv : Nat} {H : Heap} {locs : List Loc} (hX : PX gx tr va bt L tx le fe so nx nv H) (hM : PM gm tr va bt L tx le fe so nx nv H) (hO : okC va L le fe so nv) (hS : va_S (fun q => s.heap.size ≤ q) s.heap H locs) {ls : Array Slot} (hl : lv_has ls 4 [(0, .ref b), (1, .ref (gx.2.2 0)), (2, .ref (gm.2.2 0)), (3, .int (nI i))]) (kk : ∀ (H : Heap) (locs : List Loc) (ls : Array Slot), lwE gx gm H → va_S (fun q => s.heap.size ≤ q) s.heap H locs → lv_has ls 4 [(0, .ref b), (1, .ref (gx.2.2 0)), (2, .ref (gm.2.2 0)), (3, .int (nI i))] → W p l e room_1 s m #[Value.ref b] below meth c H locs 44 136235 (lw_Z below #[Value.ref b] s) (F0 m 824 ls [])) : W p l e room_1 s m #[Value.ref b] below meth c H locs 44 136235 (lw_Z below #[Value.ref b] s) (F0 m 685 ls []) := by
  obtain ⟨⟨hx, hb, hr, hml, hown, hts0, hXs, hbl, hlocks, hgv⟩, hK, hKm, hN, hdx, hdm, hne, hax, ham, hst1, hst2⟩ := C
  have hown : s.vm.findClass RL = some m.cls := hown
  obtain ⟨hL2, hnv, hle, hfe, hso, hva⟩ := id hO
  have hts : ∀ w ∈ wsL_law, w.before #[Value.ref b] s = true := fun w h => hts0 w (wsL_law_in w h)
  have hbA : ¬ (fun q : Nat => s.heap.size ≤ q) b := Nat.not_le.mpr hbl
  obtain ⟨st, en, sm, os, ot, bf, kp, ov, rc, ru, ss, wy, nw, re, nr, fo, lt, gr, hP, hrow, hrok⟩ := id hX
  refine lv_aload_n hx hb dL_law_685 rfl (lv_at hl 1 rfl) ?_
  refine lv_aload_n hx hb dL_law_686 rfl (lv_at hl 0 rfl) ?_
  refine lv_iload_n hx hb dL_law_687 rfl (lv_at hl 3 rfl) ?_
  refine lv_iconst (v := nI 1) hx hb dL_law_688 (by decide) ?_
  refine ln_iadd hx hb dL_law_689 ?_
  refine an_sld hx hb hXs hbl hbA hS (by omega) (by omega) dL_law_690 ?_
  refine ro_call (va_runV (As := [.int (xs (i + 1))]) (rest := []) ⟨hx, hb, hml, hown, hts⟩ (c_X5_fit l (g := gx) (asked := tr) (values := va) (bytes := bt) (starts := st) (ends := en) (L := L) (pt := pn bt L) (texts := tx) (lengths := le) (feet := fe) (sorts := so) (nxt := nx) (nv := nv) (sums := sm) (oneSums := os) (otherSums := ot) (byFeet := bf) (kept := kp) (over := ov) (rcount := rc) (rcust := ru) (ssums := ss) (ways := wy) (nextWays := nw) (reached := re) (nextReached := nr) (found := fo) (least := lt) (greatest := gr) (xs (i + 1)) rfl hnv hL2 hrow hle) (cwV 1 hts gL_law_X5_fit rfl rfl rfl (by decide +kernel) ⟨Nat.le_of_ble_eq_true rfl, Nat.le_of_ble_eq_true rfl⟩) (pre_V pW_bl (va_recv hK hP (ci := 5) (q0 := 0) rfl rfl) (fun U hU hW => pW_of hP hK hN hU hW)) rfl rfl hl.1 rfl (lv_room (Nat.le_of_ble_eq_true rfl)) dL_law_691 ⟨Nat.le_of_ble_eq_true rfl, Nat.le_of_ble_eq_true rfl⟩) ?_
  have hX1 := hX
  have hM1 := hM
  obtain ⟨lf, op, ow, ot, pk, pa, fr, zs, iy, ix, wy, nw, hPm⟩ := id hM1
  refine lv_aload_n hx hb dL_law_694 rfl (lv_at hl 2 rfl) ?_
  refine lv_aload_n hx hb dL_law_695 rfl (lv_at hl 0 rfl) ?_
  refine lv_iload_n hx hb dL_law_696 rfl (lv_at hl 3 rfl) ?_
  refine lv_iconst (v := nI 1) hx hb dL_law_697 (by decide) ?_
  refine ln_iadd hx hb dL_law_698 ?_
  refine an_sld hx hb hXs hbl hbA hS (by omega) (by omega) dL_law_699 ?_
  refine lx_i (w := (fun (z : (Nat → Int32) × (Nat → Int32) × Int32) => wM gm tr va bt (nI L) (nI nv) tx le fe so nx lf op ow ot pk (z.2.2) (z.1) (z.2.1) iy ix wy nw)) (va_runV (As := [.int (xs (i + 1))]) (rest := [.int (aFit bt tx le L nv ((xs (i + 1))))]) ⟨hx, hb, hml, hown, hts⟩ (c_X6_fit l (g := gm) (trace := tr) (value := va) (draft := bt) (L := L) (nv := nv) (letter := tx) (long1 := le) (feet := fe) (sort := so) (order := nx) (left := lf) (opn := op) (own := ow) (other := ot) (pick := pk) (parts := pa) (frm := fr) (size := zs) (isYear := iy) (isNext := ix) (ways := wy) (nextWays := nw) (sz := _) (xs (i + 1)) hnv hL2 hle hdm) (cwV 1 hts gL_law_X6_fit rfl rfl rfl (by decide +kernel) ⟨Nat.le_of_ble_eq_true rfl, Nat.le_of_ble_eq_true rfl⟩) (pre_V qW_bl (va_recv hKm hPm (ci := 6) (q0 := 0) rfl rfl) (fun U hU hW => ⟨by rw [hU], pW_of hPm hKm hN hU hW⟩)) rfl rfl hl.1 rfl (lv_room (Nat.le_of_ble_eq_true rfl)) dL_law_700 ⟨Nat.le_of_ble_eq_true rfl, Nat.le_of_ble_eq_true rfl⟩) hS ham (fun r2 z H locs hp hP9 hk hS => ?_)
  obtain ⟨n_frm, n_size, n_parts⟩ := z
  try dsimp only at hp
  have hP9 : va_P gm.1 vwCl (wM gm tr va bt (nI L) (nI nv) tx le fe so nx lf op ow ot pk n_parts n_frm n_size iy ix wy nw) H := hP9
  have hX2 := PX_kept hX1 (fun j hj => hk _ (PX_lt hX1 hj) (aW_no (fun k hk2 h => hne j k hj hk2 h) (PX_lt hX1 hj)))
  subst hp
  have hM2 : PM gm tr va bt L tx le fe so nx nv H := ⟨_, _, _, _, _, _, _, _, _, _, _, _, hP9⟩
  refine lv_icmp_eq (tgt := 824) hx hb dL_law_703 (by decide) (fun _ => ?_) (fun c9 => absurd rfl c9)
  exact kk _ _ ls ⟨_, _, _, _, _, _, _, _, _, _, hX2, hM2, hO⟩ hS hl
set_option maxHeartbeats 1000000 in
set_option maxRecDepth 100000 in
theorem law_readings {p : Program} {l : Launch} {e : Env} {s : State} {m : MethodId} {below : List Frame} {meth : Method} {c : Code} {b Ls : Nat} {xs : Nat → Int32} {gx gm : GW} (C : lwC p s m meth c b Ls xs gx gm) {i : Nat} (hi : i + 8 ≤ Ls) (hL4 : Ls ≤ 4096) {tr : Int64} {va : Nat → Int32} {bt : Nat → Int32} {L : Nat} {tx : Nat → Int32} {le : Nat → Int32} {fe : Nat → Int32} {so : Nat → Int32} {nx : Nat → Int32} {nv : Nat} {H : Heap} {locs : List Loc} (hX : PX gx tr va bt L tx le fe so nx nv H) (hM : PM gm tr va bt L tx le fe so nx nv H) (hO : okC va L le fe so nv) (hS : va_S (fun q => s.heap.size ≤ q) s.heap H locs) {ls : Array Slot} (hl : lv_has ls 4 [(0, .ref b), (1, .ref (gx.2.2 0)), (2, .ref (gm.2.2 0)), (3, .int (nI i))]) (kk : ∀ (H : Heap) (locs : List Loc) (ls : Array Slot), lwE gx gm H → va_S (fun q => s.heap.size ≤ q) s.heap H locs → lv_has ls 4 [(0, .ref b), (1, .ref (gx.2.2 0)), (2, .ref (gm.2.2 0)), (3, .int (nI i))] → W p l e room_1 s m #[Value.ref b] below meth c H locs 44 136235 (lw_Z below #[Value.ref b] s) (F0 m 824 ls [])) : W p l e room_1 s m #[Value.ref b] below meth c H locs 44 136235 (lw_Z below #[Value.ref b] s) (F0 m 708 ls []) := by
  obtain ⟨⟨hx, hb, hr, hml, hown, hts0, hXs, hbl, hlocks, hgv⟩, hK, hKm, hN, hdx, hdm, hne, hax, ham, hst1, hst2⟩ := C
  have hown : s.vm.findClass RL = some m.cls := hown
  obtain ⟨hL2, hnv, hle, hfe, hso, hva⟩ := id hO
  have hts : ∀ w ∈ wsL_law, w.before #[Value.ref b] s = true := fun w h => hts0 w (wsL_law_in w h)
  have hbA : ¬ (fun q : Nat => s.heap.size ≤ q) b := Nat.not_le.mpr hbl
  obtain ⟨st, en, sm, os, ot, bf, kp, ov, rc, ru, ss, wy, nw, re, nr, fo, lt, gr, hP, hrow, hrok⟩ := id hX
  refine lv_aload_n hx hb dL_law_708 rfl (lv_at hl 1 rfl) ?_
  refine lx_i (w := (fun (z : (Nat → Int64) × (Nat → Int64)) => wX gx tr va bt st en (nI L) (nI (pn bt L)) tx le fe so nx (nI nv) sm os ot bf kp ov rc ru ss (z.1) (z.2) re nr fo lt gr)) (va_runV (As := []) (rest := []) ⟨hx, hb, hml, hown, hts⟩ (c_X5_readings l (g := gx) (asked := tr) (values := va) (bytes := bt) (starts := st) (ends := en) (L := L) (pt := pn bt L) (texts := tx) (lengths := le) (feet := fe) (sorts := so) (nxt := nx) (nv := nv) (sums := sm) (oneSums := os) (otherSums := ot) (byFeet := bf) (kept := kp) (over := ov) (rcount := rc) (rcust := ru) (ssums := ss) (ways := wy) (nextWays := nw) (reached := re) (nextReached := nr) (found := fo) (least := lt) (greatest := gr) (sz := _)  rfl hnv hL2 hrow hle hso hdx) (cwV 0 hts gL_law_X5_readings rfl rfl rfl (by decide +kernel) ⟨Nat.le_of_ble_eq_true rfl, Nat.le_of_ble_eq_true rfl⟩) (pre_V qW_bl (va_recv hK hP (ci := 5) (q0 := 0) rfl rfl) (fun U hU hW => ⟨by rw [hU], pW_of hP hK hN hU hW⟩)) rfl rfl hl.1 rfl (lv_room (Nat.le_of_ble_eq_true rfl)) dL_law_709 ⟨Nat.le_of_ble_eq_true rfl, Nat.le_of_ble_eq_true rfl⟩) hS hax (fun r1 z H locs hp hP9 hk hS => ?_)
  obtain ⟨n_ways, n_nextWays⟩ := z
  try dsimp only at hp
  have hP9 : va_P gx.1 vwCl (wX gx tr va bt st en (nI L) (nI (pn bt L)) tx le fe so nx (nI nv) sm os ot bf kp ov rc ru ss n_ways n_nextWays re nr fo lt gr) H := hP9
  have hM1 : PM gm tr va bt L tx le fe so nx nv H := PM_kept hM (fun j hj => hk _ (PM_lt hM hj) (aW_no (fun k hk2 h => hne k j hk2 hj h.symm) (PM_lt hM hj)))
  subst hp
  have hX1 : PX gx tr va bt L tx le fe so nx nv H := ⟨_, _, _, _, _, _, _, _, _, _, _, _, _, _, _, _, _, _, hP9, hrow, hrok⟩
  obtain ⟨lf, op, ow, ot, pk, pa, fr, zs, iy, ix, wy, nw, hPm⟩ := id hM1
  refine lv_aload_n hx hb dL_law_712 rfl (lv_at hl 2 rfl) ?_
  refine lx_i (w := (fun (z : (Nat → Int32) × (Nat → Int32) × Int32 × (Nat → Int64) × (Nat → Int64)) => wM gm tr va bt (nI L) (nI nv) tx le fe so nx lf op ow ot pk (z.2.2.1) (z.1) (z.2.1) iy ix (z.2.2.2.1) (z.2.2.2.2))) (va_runV (As := []) (rest := [.int (aRead bt tx le so nx L nv)]) ⟨hx, hb, hml, hown, hts⟩ (c_X6_readings l (g := gm) (trace := tr) (value := va) (draft := bt) (L := L) (nv := nv) (letter := tx) (long1 := le) (feet := fe) (sort := so) (order := nx) (left := lf) (opn := op) (own := ow) (other := ot) (pick := pk) (parts := pa) (frm := fr) (size := zs) (isYear := iy) (isNext := ix) (ways := wy) (nextWays := nw) (sz := _)  hnv hL2 hle hso hdm) (cwV 0 hts gL_law_X6_readings rfl rfl rfl (by decide +kernel) ⟨Nat.le_of_ble_eq_true rfl, Nat.le_of_ble_eq_true rfl⟩) (pre_V qW_bl (va_recv hKm hPm (ci := 6) (q0 := 0) rfl rfl) (fun U hU hW => ⟨by rw [hU], pW_of hPm hKm hN hU hW⟩)) rfl rfl hl.1 rfl (lv_room (Nat.le_of_ble_eq_true rfl)) dL_law_713 ⟨Nat.le_of_ble_eq_true rfl, Nat.le_of_ble_eq_true rfl⟩) hS ham (fun r2 z H locs hp hP9 hk hS => ?_)
  obtain ⟨n_frm, n_size, n_parts, n_ways, n_nextWays⟩ := z
  try dsimp only at hp
  have hP9 : va_P gm.1 vwCl (wM gm tr va bt (nI L) (nI nv) tx le fe so nx lf op ow ot pk n_parts n_frm n_size iy ix n_ways n_nextWays) H := hP9
  have hX2 := PX_kept hX1 (fun j hj => hk _ (PX_lt hX1 hj) (aW_no (fun k hk2 h => hne j k hj hk2 h) (PX_lt hX1 hj)))
  subst hp
  have hM2 : PM gm tr va bt L tx le fe so nx nv H := ⟨_, _, _, _, _, _, _, _, _, _, _, _, hP9⟩
  refine lv_icmp_eq (tgt := 824) hx hb dL_law_716 (by decide) (fun _ => ?_) (fun c9 => absurd rfl c9)
  exact kk _ _ ls ⟨_, _, _, _, _, _, _, _, _, _, hX2, hM2, hO⟩ hS hl
set_option maxHeartbeats 1000000 in
set_option maxRecDepth 100000 in
theorem law_years {p : Program} {l : Launch} {e : Env} {s : State} {m : MethodId} {below : List Frame} {meth : Method} {c : Code} {b Ls : Nat} {xs : Nat → Int32} {gx gm : GW} (C : lwC p s m meth c b Ls xs gx gm) {i : Nat} (hi : i + 8 ≤ Ls) (hL4 : Ls ≤ 4096) {tr : Int64} {va : Nat → Int32} {bt : Nat → Int32} {L : Nat} {tx : Nat → Int32} {le : Nat → Int32} {fe : Nat → Int32} {so : Nat → Int32} {nx : Nat → Int32} {nv : Nat} {H : Heap} {locs : List Loc} (hX : PX gx tr va bt L tx le fe so nx nv H) (hM : PM gm tr va bt L tx le fe so nx nv H) (hO : okC va L le fe so nv) (hS : va_S (fun q => s.heap.size ≤ q) s.heap H locs) {ls : Array Slot} (hl : lv_has ls 4 [(0, .ref b), (1, .ref (gx.2.2 0)), (2, .ref (gm.2.2 0)), (3, .int (nI i))]) (kk : ∀ (H : Heap) (locs : List Loc) (ls : Array Slot), lwE gx gm H → va_S (fun q => s.heap.size ≤ q) s.heap H locs → lv_has ls 4 [(0, .ref b), (1, .ref (gx.2.2 0)), (2, .ref (gm.2.2 0)), (3, .int (nI i))] → W p l e room_1 s m #[Value.ref b] below meth c H locs 44 136235 (lw_Z below #[Value.ref b] s) (F0 m 824 ls [])) : W p l e room_1 s m #[Value.ref b] below meth c H locs 44 136235 (lw_Z below #[Value.ref b] s) (F0 m 721 ls []) := by
  obtain ⟨⟨hx, hb, hr, hml, hown, hts0, hXs, hbl, hlocks, hgv⟩, hK, hKm, hN, hdx, hdm, hne, hax, ham, hst1, hst2⟩ := C
  have hown : s.vm.findClass RL = some m.cls := hown
  obtain ⟨hL2, hnv, hle, hfe, hso, hva⟩ := id hO
  have hts : ∀ w ∈ wsL_law, w.before #[Value.ref b] s = true := fun w h => hts0 w (wsL_law_in w h)
  have hbA : ¬ (fun q : Nat => s.heap.size ≤ q) b := Nat.not_le.mpr hbl
  obtain ⟨st, en, sm, os, ot, bf, kp, ov, rc, ru, ss, wy, nw, re, nr, fo, lt, gr, hP, hrow, hrok⟩ := id hX
  refine lv_aload_n hx hb dL_law_721 rfl (lv_at hl 1 rfl) ?_
  refine lv_aload_n hx hb dL_law_722 rfl (lv_at hl 0 rfl) ?_
  refine lv_iload_n hx hb dL_law_723 rfl (lv_at hl 3 rfl) ?_
  refine lv_iconst (v := nI 1) hx hb dL_law_724 (by decide) ?_
  refine ln_iadd hx hb dL_law_725 ?_
  refine an_sld hx hb hXs hbl hbA hS (by omega) (by omega) dL_law_726 ?_
  refine lv_aload_n hx hb dL_law_727 rfl (lv_at hl 0 rfl) ?_
  refine lv_iload_n hx hb dL_law_728 rfl (lv_at hl 3 rfl) ?_
  refine lv_iconst (v := nI 2) hx hb dL_law_729 (by decide) ?_
  refine ln_iadd hx hb dL_law_730 ?_
  refine an_sld hx hb hXs hbl hbA hS (by omega) (by omega) dL_law_731 ?_
  refine lv_aload_n hx hb dL_law_732 rfl (lv_at hl 0 rfl) ?_
  refine lv_iload_n hx hb dL_law_733 rfl (lv_at hl 3 rfl) ?_
  refine lv_iconst (v := nI 3) hx hb dL_law_734 (by decide) ?_
  refine ln_iadd hx hb dL_law_735 ?_
  refine an_sld hx hb hXs hbl hbA hS (by omega) (by omega) dL_law_736 ?_
  refine lx_i (w := (fun (z : (Nat → Int32) × (Nat → Int64) × (Nat → Int64) × Int32 × Int32 × Int32) => wX gx tr va bt st en (nI L) (nI (pn bt L)) tx le fe so nx (nI nv) sm os ot bf kp ov rc ru (z.1) wy nw (z.2.1) (z.2.2.1) (z.2.2.2.1) (z.2.2.2.2.1) (z.2.2.2.2.2))) (va_runV (As := [.int (xs (i + 1)), .int (xs (i + 2)), .int (xs (i + 3))]) (rest := []) ⟨hx, hb, hml, hown, hts⟩ (c_X5_years l (g := gx) (asked := tr) (values := va) (bytes := bt) (starts := st) (ends := en) (L := L) (pt := pn bt L) (texts := tx) (lengths := le) (feet := fe) (sorts := so) (nxt := nx) (nv := nv) (sums := sm) (oneSums := os) (otherSums := ot) (byFeet := bf) (kept := kp) (over := ov) (rcount := rc) (rcust := ru) (ssums := ss) (ways := wy) (nextWays := nw) (reached := re) (nextReached := nr) (found := fo) (least := lt) (greatest := gr) (sz := _) (xs (i + 1)) (xs (i + 2)) (xs (i + 3)) rfl hnv hL2 hrow hle hso hva hdx) (cwV 3 hts gL_law_X5_years rfl rfl rfl (by decide +kernel) ⟨Nat.le_of_ble_eq_true rfl, Nat.le_of_ble_eq_true rfl⟩) (pre_V qW_bl (va_recv hK hP (ci := 5) (q0 := 0) rfl rfl) (fun U hU hW => ⟨by rw [hU], pW_of hP hK hN hU hW⟩)) rfl rfl hl.1 rfl (lv_room (Nat.le_of_ble_eq_true rfl)) dL_law_737 ⟨Nat.le_of_ble_eq_true rfl, Nat.le_of_ble_eq_true rfl⟩) hS hax (fun r1 z H locs hp hP9 hk hS => ?_)
  obtain ⟨n_ssums, n_reached, n_nextReached, n_found, n_least, n_greatest⟩ := z
  try dsimp only at hp
  have hP9 : va_P gx.1 vwCl (wX gx tr va bt st en (nI L) (nI (pn bt L)) tx le fe so nx (nI nv) sm os ot bf kp ov rc ru n_ssums wy nw n_reached n_nextReached n_found n_least n_greatest) H := hP9
  have hM1 : PM gm tr va bt L tx le fe so nx nv H := PM_kept hM (fun j hj => hk _ (PM_lt hM hj) (aW_no (fun k hk2 h => hne k j hk2 hj h.symm) (PM_lt hM hj)))
  subst hp
  have hX1 : PX gx tr va bt L tx le fe so nx nv H := ⟨_, _, _, _, _, _, _, _, _, _, _, _, _, _, _, _, _, _, hP9, hrow, hrok⟩
  obtain ⟨lf, op, ow, ot, pk, pa, fr, zs, iy, ix, wy, nw, hPm⟩ := id hM1
  refine lv_aload_n hx hb dL_law_740 rfl (lv_at hl 2 rfl) ?_
  refine lv_aload_n hx hb dL_law_741 rfl (lv_at hl 0 rfl) ?_
  refine lv_iload_n hx hb dL_law_742 rfl (lv_at hl 3 rfl) ?_
  refine lv_iconst (v := nI 1) hx hb dL_law_743 (by decide) ?_
  refine ln_iadd hx hb dL_law_744 ?_
  refine an_sld hx hb hXs hbl hbA hS (by omega) (by omega) dL_law_745 ?_
  refine lv_aload_n hx hb dL_law_746 rfl (lv_at hl 0 rfl) ?_
  refine lv_iload_n hx hb dL_law_747 rfl (lv_at hl 3 rfl) ?_
  refine lv_iconst (v := nI 2) hx hb dL_law_748 (by decide) ?_
  refine ln_iadd hx hb dL_law_749 ?_
  refine an_sld hx hb hXs hbl hbA hS (by omega) (by omega) dL_law_750 ?_
  refine lv_aload_n hx hb dL_law_751 rfl (lv_at hl 0 rfl) ?_
  refine lv_iload_n hx hb dL_law_752 rfl (lv_at hl 3 rfl) ?_
  refine lv_iconst (v := nI 3) hx hb dL_law_753 (by decide) ?_
  refine ln_iadd hx hb dL_law_754 ?_
  refine an_sld hx hb hXs hbl hbA hS (by omega) (by omega) dL_law_755 ?_
  refine lx_i (w := (fun (z : Int32 × (Nat → Int32) × (Nat → Int32) × (Nat → Int32) × (Nat → Int32) × (Nat → Int32)) => wM gm tr va bt (nI L) (nI nv) tx le fe so nx lf op (z.2.2.2.1) ot pk (z.1) (z.2.1) (z.2.2.1) (z.2.2.2.2.1) (z.2.2.2.2.2) wy nw)) (va_runV (As := [.int (xs (i + 1)), .int (xs (i + 2)), .int (xs (i + 3))]) (rest := [.int (aYears va bt tx le so nx L nv ((xs (i + 1))) ((xs (i + 2))) ((xs (i + 3))))]) ⟨hx, hb, hml, hown, hts⟩ (c_X6_years l (g := gm) (trace := tr) (value := va) (draft := bt) (L := L) (nv := nv) (letter := tx) (long1 := le) (feet := fe) (sort := so) (order := nx) (left := lf) (opn := op) (own := ow) (other := ot) (pick := pk) (parts := pa) (frm := fr) (size := zs) (isYear := iy) (isNext := ix) (ways := wy) (nextWays := nw) (sz := _) (xs (i + 1)) (xs (i + 2)) (xs (i + 3)) hnv hL2 hle hso hva hdm) (cwV 3 hts gL_law_X6_years rfl rfl rfl (by decide +kernel) ⟨Nat.le_of_ble_eq_true rfl, Nat.le_of_ble_eq_true rfl⟩) (pre_V qW_bl (va_recv hKm hPm (ci := 6) (q0 := 0) rfl rfl) (fun U hU hW => ⟨by rw [hU], pW_of hPm hKm hN hU hW⟩)) rfl rfl hl.1 rfl (lv_room (Nat.le_of_ble_eq_true rfl)) dL_law_756 ⟨Nat.le_of_ble_eq_true rfl, Nat.le_of_ble_eq_true rfl⟩) hS ham (fun r2 z H locs hp hP9 hk hS => ?_)
  obtain ⟨n_parts, n_frm, n_size, n_own, n_isYear, n_isNext⟩ := z
  try dsimp only at hp
  have hP9 : va_P gm.1 vwCl (wM gm tr va bt (nI L) (nI nv) tx le fe so nx lf op n_own ot pk n_parts n_frm n_size n_isYear n_isNext wy nw) H := hP9
  have hX2 := PX_kept hX1 (fun j hj => hk _ (PX_lt hX1 hj) (aW_no (fun k hk2 h => hne j k hj hk2 h) (PX_lt hX1 hj)))
  subst hp
  have hM2 : PM gm tr va bt L tx le fe so nx nv H := ⟨_, _, _, _, _, _, _, _, _, _, _, _, hP9⟩
  refine lv_icmp_eq (tgt := 824) hx hb dL_law_759 (by decide) (fun _ => ?_) (fun c9 => absurd rfl c9)
  exact kk _ _ ls ⟨_, _, _, _, _, _, _, _, _, _, hX2, hM2, hO⟩ hS hl
set_option maxHeartbeats 1000000 in
set_option maxRecDepth 100000 in
theorem law_borne {p : Program} {l : Launch} {e : Env} {s : State} {m : MethodId} {below : List Frame} {meth : Method} {c : Code} {b Ls : Nat} {xs : Nat → Int32} {gx gm : GW} (C : lwC p s m meth c b Ls xs gx gm) {i : Nat} (hi : i + 8 ≤ Ls) (hL4 : Ls ≤ 4096) {tr : Int64} {va : Nat → Int32} {bt : Nat → Int32} {L : Nat} {tx : Nat → Int32} {le : Nat → Int32} {fe : Nat → Int32} {so : Nat → Int32} {nx : Nat → Int32} {nv : Nat} {H : Heap} {locs : List Loc} (hX : PX gx tr va bt L tx le fe so nx nv H) (hM : PM gm tr va bt L tx le fe so nx nv H) (hO : okC va L le fe so nv) (hS : va_S (fun q => s.heap.size ≤ q) s.heap H locs) {ls : Array Slot} (hl : lv_has ls 4 [(0, .ref b), (1, .ref (gx.2.2 0)), (2, .ref (gm.2.2 0)), (3, .int (nI i))]) (kk : ∀ (H : Heap) (locs : List Loc) (ls : Array Slot), lwE gx gm H → va_S (fun q => s.heap.size ≤ q) s.heap H locs → lv_has ls 4 [(0, .ref b), (1, .ref (gx.2.2 0)), (2, .ref (gm.2.2 0)), (3, .int (nI i))] → W p l e room_1 s m #[Value.ref b] below meth c H locs 44 136235 (lw_Z below #[Value.ref b] s) (F0 m 824 ls [])) : W p l e room_1 s m #[Value.ref b] below meth c H locs 44 136235 (lw_Z below #[Value.ref b] s) (F0 m 764 ls []) := by
  obtain ⟨⟨hx, hb, hr, hml, hown, hts0, hXs, hbl, hlocks, hgv⟩, hK, hKm, hN, hdx, hdm, hne, hax, ham, hst1, hst2⟩ := C
  have hown : s.vm.findClass RL = some m.cls := hown
  obtain ⟨hL2, hnv, hle, hfe, hso, hva⟩ := id hO
  have hts : ∀ w ∈ wsL_law, w.before #[Value.ref b] s = true := fun w h => hts0 w (wsL_law_in w h)
  have hbA : ¬ (fun q : Nat => s.heap.size ≤ q) b := Nat.not_le.mpr hbl
  obtain ⟨st, en, sm, os, ot, bf, kp, ov, rc, ru, ss, wy, nw, re, nr, fo, lt, gr, hP, hrow, hrok⟩ := id hX
  refine lv_aload_n hx hb dL_law_764 rfl (lv_at hl 1 rfl) ?_
  refine lv_aload_n hx hb dL_law_765 rfl (lv_at hl 0 rfl) ?_
  refine lv_iload_n hx hb dL_law_766 rfl (lv_at hl 3 rfl) ?_
  refine lv_iconst (v := nI 1) hx hb dL_law_767 (by decide) ?_
  refine ln_iadd hx hb dL_law_768 ?_
  refine an_sld hx hb hXs hbl hbA hS (by omega) (by omega) dL_law_769 ?_
  refine ro_call (va_runV (As := [.int (xs (i + 1))]) (rest := []) ⟨hx, hb, hml, hown, hts⟩ (c_X5_borne l (g := gx) (asked := tr) (values := va) (bytes := bt) (starts := st) (ends := en) (L := L) (parts := nI (pn bt L)) (texts := tx) (lengths := le) (feet := fe) (sorts := so) (nxt := nx) (size := nI nv) (sums := sm) (oneSums := os) (otherSums := ot) (byFeet := bf) (kept := kp) (over := ov) (rcount := rc) (rcust := ru) (ssums := ss) (ways := wy) (nextWays := nw) (reached := re) (nextReached := nr) (found := fo) (least := lt) (greatest := gr) (xs (i + 1)) hL2) (cwV 1 hts gL_law_X5_borne rfl rfl rfl (by decide +kernel) ⟨Nat.le_of_ble_eq_true rfl, Nat.le_of_ble_eq_true rfl⟩) (pre_V pW_bl (va_recv hK hP (ci := 5) (q0 := 0) rfl rfl) (fun U hU hW => pW_of hP hK hN hU hW)) rfl rfl hl.1 rfl (lv_room (Nat.le_of_ble_eq_true rfl)) dL_law_770 ⟨Nat.le_of_ble_eq_true rfl, Nat.le_of_ble_eq_true rfl⟩) ?_
  have hX1 := hX
  have hM1 := hM
  obtain ⟨lf, op, ow, ot, pk, pa, fr, zs, iy, ix, wy, nw, hPm⟩ := id hM1
  refine lv_aload_n hx hb dL_law_773 rfl (lv_at hl 2 rfl) ?_
  refine lv_aload_n hx hb dL_law_774 rfl (lv_at hl 0 rfl) ?_
  refine lv_iload_n hx hb dL_law_775 rfl (lv_at hl 3 rfl) ?_
  refine lv_iconst (v := nI 1) hx hb dL_law_776 (by decide) ?_
  refine ln_iadd hx hb dL_law_777 ?_
  refine an_sld hx hb hXs hbl hbA hS (by omega) (by omega) dL_law_778 ?_
  refine lx_i (w := (fun (z : Unit) => wM gm tr va bt (nI L) (nI nv) tx le fe so nx lf op ow ot pk pa fr zs iy ix wy nw)) (va_runV (As := [.int (xs (i + 1))]) (rest := [.int (aBorne va bt L ((xs (i + 1))))]) ⟨hx, hb, hml, hown, hts⟩ (c_X6_borne l (g := gm) (trace := tr) (value := va) (draft := bt) (L := L) (vocables := nI nv) (letter := tx) (long1 := le) (feet := fe) (sort := so) (order := nx) (left := lf) (opn := op) (own := ow) (other := ot) (pick := pk) (parts := pa) (frm := fr) (size := zs) (isYear := iy) (isNext := ix) (ways := wy) (nextWays := nw) (sz := _) (xs (i + 1)) hL2 hdm) (cwV 1 hts gL_law_X6_borne rfl rfl rfl (by decide +kernel) ⟨Nat.le_of_ble_eq_true rfl, Nat.le_of_ble_eq_true rfl⟩) (pre_V qW_bl (va_recv hKm hPm (ci := 6) (q0 := 0) rfl rfl) (fun U hU hW => ⟨by rw [hU], pW_of hPm hKm hN hU hW⟩)) rfl rfl hl.1 rfl (lv_room (Nat.le_of_ble_eq_true rfl)) dL_law_779 ⟨Nat.le_of_ble_eq_true rfl, Nat.le_of_ble_eq_true rfl⟩) hS ham (fun r2 z H locs hp hP9 hk hS => ?_)
  try dsimp only at hp
  have hP9 : va_P gm.1 vwCl (wM gm tr va bt (nI L) (nI nv) tx le fe so nx lf op ow ot pk pa fr zs iy ix wy nw) H := hP9
  have hX2 := PX_kept hX1 (fun j hj => hk _ (PX_lt hX1 hj) (aW_no (fun k hk2 h => hne j k hj hk2 h) (PX_lt hX1 hj)))
  subst hp
  have hM2 : PM gm tr va bt L tx le fe so nx nv H := ⟨_, _, _, _, _, _, _, _, _, _, _, _, hP9⟩
  refine lv_icmp_eq (tgt := 824) hx hb dL_law_782 (by decide) (fun _ => ?_) (fun c9 => absurd rfl c9)
  exact kk _ _ ls ⟨_, _, _, _, _, _, _, _, _, _, hX2, hM2, hO⟩ hS hl
set_option maxHeartbeats 1000000 in
set_option maxRecDepth 100000 in
theorem law_count {p : Program} {l : Launch} {e : Env} {s : State} {m : MethodId} {below : List Frame} {meth : Method} {c : Code} {b Ls : Nat} {xs : Nat → Int32} {gx gm : GW} (C : lwC p s m meth c b Ls xs gx gm) {i : Nat} (hi : i + 8 ≤ Ls) (hL4 : Ls ≤ 4096) {tr : Int64} {va : Nat → Int32} {bt : Nat → Int32} {L : Nat} {tx : Nat → Int32} {le : Nat → Int32} {fe : Nat → Int32} {so : Nat → Int32} {nx : Nat → Int32} {nv : Nat} {H : Heap} {locs : List Loc} (hX : PX gx tr va bt L tx le fe so nx nv H) (hM : PM gm tr va bt L tx le fe so nx nv H) (hO : okC va L le fe so nv) (hS : va_S (fun q => s.heap.size ≤ q) s.heap H locs) {ls : Array Slot} (hl : lv_has ls 4 [(0, .ref b), (1, .ref (gx.2.2 0)), (2, .ref (gm.2.2 0)), (3, .int (nI i))]) (kk : ∀ (H : Heap) (locs : List Loc) (ls : Array Slot), lwE gx gm H → va_S (fun q => s.heap.size ≤ q) s.heap H locs → lv_has ls 4 [(0, .ref b), (1, .ref (gx.2.2 0)), (2, .ref (gm.2.2 0)), (3, .int (nI i))] → W p l e room_1 s m #[Value.ref b] below meth c H locs 44 136235 (lw_Z below #[Value.ref b] s) (F0 m 824 ls [])) : W p l e room_1 s m #[Value.ref b] below meth c H locs 44 136235 (lw_Z below #[Value.ref b] s) (F0 m 787 ls []) := by
  obtain ⟨⟨hx, hb, hr, hml, hown, hts0, hXs, hbl, hlocks, hgv⟩, hK, hKm, hN, hdx, hdm, hne, hax, ham, hst1, hst2⟩ := C
  have hown : s.vm.findClass RL = some m.cls := hown
  obtain ⟨hL2, hnv, hle, hfe, hso, hva⟩ := id hO
  have hts : ∀ w ∈ wsL_law, w.before #[Value.ref b] s = true := fun w h => hts0 w (wsL_law_in w h)
  have hbA : ¬ (fun q : Nat => s.heap.size ≤ q) b := Nat.not_le.mpr hbl
  obtain ⟨st, en, sm, os, ot, bf, kp, ov, rc, ru, ss, wy, nw, re, nr, fo, lt, gr, hP, hrow, hrok⟩ := id hX
  refine lv_aload_n hx hb dL_law_787 rfl (lv_at hl 1 rfl) ?_
  refine lv_aload_n hx hb dL_law_788 rfl (lv_at hl 0 rfl) ?_
  refine lv_iload_n hx hb dL_law_789 rfl (lv_at hl 3 rfl) ?_
  refine lv_iconst (v := nI 1) hx hb dL_law_790 (by decide) ?_
  refine ln_iadd hx hb dL_law_791 ?_
  refine an_sld hx hb hXs hbl hbA hS (by omega) (by omega) dL_law_792 ?_
  refine ro_call (va_runV (As := [.int (xs (i + 1))]) (rest := []) ⟨hx, hb, hml, hown, hts⟩ (c_X5_count l (g := gx) (asked := tr) (values := va) (bytes := bt) (starts := st) (ends := en) (L := L) (pt := pn bt L) (texts := tx) (lengths := le) (feet := fe) (sorts := so) (nxt := nx) (nv := nv) (sums := sm) (oneSums := os) (otherSums := ot) (byFeet := bf) (kept := kp) (over := ov) (rcount := rc) (rcust := ru) (ssums := ss) (ways := wy) (nextWays := nw) (reached := re) (nextReached := nr) (found := fo) (least := lt) (greatest := gr) (xs (i + 1)) rfl hL2) (cwV 1 hts gL_law_X5_count rfl rfl rfl (by decide +kernel) ⟨Nat.le_of_ble_eq_true rfl, Nat.le_of_ble_eq_true rfl⟩) (pre_V pW_bl (va_recv hK hP (ci := 5) (q0 := 0) rfl rfl) (fun U hU hW => pW_of hP hK hN hU hW)) rfl rfl hl.1 rfl (lv_room (Nat.le_of_ble_eq_true rfl)) dL_law_793 ⟨Nat.le_of_ble_eq_true rfl, Nat.le_of_ble_eq_true rfl⟩) ?_
  have hX1 := hX
  have hM1 := hM
  obtain ⟨lf, op, ow, ot, pk, pa, fr, zs, iy, ix, wy, nw, hPm⟩ := id hM1
  refine lv_aload_n hx hb dL_law_796 rfl (lv_at hl 2 rfl) ?_
  refine lv_aload_n hx hb dL_law_797 rfl (lv_at hl 0 rfl) ?_
  refine lv_iload_n hx hb dL_law_798 rfl (lv_at hl 3 rfl) ?_
  refine lv_iconst (v := nI 1) hx hb dL_law_799 (by decide) ?_
  refine ln_iadd hx hb dL_law_800 ?_
  refine an_sld hx hb hXs hbl hbA hS (by omega) (by omega) dL_law_801 ?_
  refine lx_i (w := (fun (z : (Nat → Int32) × (Nat → Int32) × Int32) => wM gm tr va bt (nI L) (nI nv) tx le fe so nx lf op ow ot pk (z.2.2) (z.1) (z.2.1) iy ix wy nw)) (va_runV (As := [.int (xs (i + 1))]) (rest := [.int (aCount bt nv L ((xs (i + 1))))]) ⟨hx, hb, hml, hown, hts⟩ (c_X6_count l (g := gm) (trace := tr) (value := va) (draft := bt) (L := L) (nv := nv) (letter := tx) (long1 := le) (feet := fe) (sort := so) (order := nx) (left := lf) (opn := op) (own := ow) (other := ot) (pick := pk) (parts := pa) (frm := fr) (size := zs) (isYear := iy) (isNext := ix) (ways := wy) (nextWays := nw) (sz := _) (xs (i + 1)) hL2 hdm) (cwV 1 hts gL_law_X6_count rfl rfl rfl (by decide +kernel) ⟨Nat.le_of_ble_eq_true rfl, Nat.le_of_ble_eq_true rfl⟩) (pre_V qW_bl (va_recv hKm hPm (ci := 6) (q0 := 0) rfl rfl) (fun U hU hW => ⟨by rw [hU], pW_of hPm hKm hN hU hW⟩)) rfl rfl hl.1 rfl (lv_room (Nat.le_of_ble_eq_true rfl)) dL_law_802 ⟨Nat.le_of_ble_eq_true rfl, Nat.le_of_ble_eq_true rfl⟩) hS ham (fun r2 z H locs hp hP9 hk hS => ?_)
  obtain ⟨n_frm, n_size, n_parts⟩ := z
  try dsimp only at hp
  have hP9 : va_P gm.1 vwCl (wM gm tr va bt (nI L) (nI nv) tx le fe so nx lf op ow ot pk n_parts n_frm n_size iy ix wy nw) H := hP9
  have hX2 := PX_kept hX1 (fun j hj => hk _ (PX_lt hX1 hj) (aW_no (fun k hk2 h => hne j k hj hk2 h) (PX_lt hX1 hj)))
  subst hp
  have hM2 : PM gm tr va bt L tx le fe so nx nv H := ⟨_, _, _, _, _, _, _, _, _, _, _, _, hP9⟩
  refine lv_icmp_eq (tgt := 824) hx hb dL_law_805 (by decide) (fun _ => ?_) (fun c9 => absurd rfl c9)
  exact kk _ _ ls ⟨_, _, _, _, _, _, _, _, _, _, hX2, hM2, hO⟩ hS hl
set_option maxHeartbeats 1000000 in
set_option maxRecDepth 100000 in
theorem law_trace {p : Program} {l : Launch} {e : Env} {s : State} {m : MethodId} {below : List Frame} {meth : Method} {c : Code} {b Ls : Nat} {xs : Nat → Int32} {gx gm : GW} (C : lwC p s m meth c b Ls xs gx gm) {i : Nat} (hi : i + 8 ≤ Ls) (hL4 : Ls ≤ 4096) {tr : Int64} {va : Nat → Int32} {bt : Nat → Int32} {L : Nat} {tx : Nat → Int32} {le : Nat → Int32} {fe : Nat → Int32} {so : Nat → Int32} {nx : Nat → Int32} {nv : Nat} {H : Heap} {locs : List Loc} (hX : PX gx tr va bt L tx le fe so nx nv H) (hM : PM gm tr va bt L tx le fe so nx nv H) (hO : okC va L le fe so nv) (hS : va_S (fun q => s.heap.size ≤ q) s.heap H locs) {ls : Array Slot} (hl : lv_has ls 4 [(0, .ref b), (1, .ref (gx.2.2 0)), (2, .ref (gm.2.2 0)), (3, .int (nI i))]) (kk : ∀ (H : Heap) (locs : List Loc) (ls : Array Slot), lwE gx gm H → va_S (fun q => s.heap.size ≤ q) s.heap H locs → lv_has ls 4 [(0, .ref b), (1, .ref (gx.2.2 0)), (2, .ref (gm.2.2 0)), (3, .int (nI i))] → W p l e room_1 s m #[Value.ref b] below meth c H locs 44 136235 (lw_Z below #[Value.ref b] s) (F0 m 824 ls [])) : W p l e room_1 s m #[Value.ref b] below meth c H locs 44 136235 (lw_Z below #[Value.ref b] s) (F0 m 810 ls []) := by
  obtain ⟨⟨hx, hb, hr, hml, hown, hts0, hXs, hbl, hlocks, hgv⟩, hK, hKm, hN, hdx, hdm, hne, hax, ham, hst1, hst2⟩ := C
  have hown : s.vm.findClass RL = some m.cls := hown
  obtain ⟨hL2, hnv, hle, hfe, hso, hva⟩ := id hO
  have hts : ∀ w ∈ wsL_law, w.before #[Value.ref b] s = true := fun w h => hts0 w (wsL_law_in w h)
  have hbA : ¬ (fun q : Nat => s.heap.size ≤ q) b := Nat.not_le.mpr hbl
  obtain ⟨st, en, sm, os, ot, bf, kp, ov, rc, ru, ss, wy, nw, re, nr, fo, lt, gr, hP, hrow, hrok⟩ := id hX
  refine lv_aload_n hx hb dL_law_810 rfl (lv_at hl 1 rfl) ?_
  refine ro_call (va_runV (As := []) (rest := []) ⟨hx, hb, hml, hown, hts⟩ (c_X5_trace l (g := gx) (asked := tr) (values := va) (bytes := bt) (starts := st) (ends := en) (length := nI L) (parts := nI (pn bt L)) (texts := tx) (lengths := le) (feet := fe) (sorts := so) (nxt := nx) (size := nI nv) (sums := sm) (oneSums := os) (otherSums := ot) (byFeet := bf) (kept := kp) (over := ov) (rcount := rc) (rcust := ru) (ssums := ss) (ways := wy) (nextWays := nw) (reached := re) (nextReached := nr) (found := fo) (least := lt) (greatest := gr)  ) (cwV 0 hts gL_law_X5_trace rfl rfl rfl (by decide +kernel) ⟨Nat.le_of_ble_eq_true rfl, Nat.le_of_ble_eq_true rfl⟩) (pre_V pW_bl (va_recv hK hP (ci := 5) (q0 := 0) rfl rfl) (fun U hU hW => pW_of hP hK hN hU hW)) rfl rfl hl.1 rfl (lv_room (Nat.le_of_ble_eq_true rfl)) dL_law_811 ⟨Nat.le_of_ble_eq_true rfl, Nat.le_of_ble_eq_true rfl⟩) ?_
  have hX1 := hX
  have hM1 := hM
  obtain ⟨lf, op, ow, ot, pk, pa, fr, zs, iy, ix, wy, nw, hPm⟩ := id hM1
  refine lv_aload_n hx hb dL_law_814 rfl (lv_at hl 2 rfl) ?_
  refine lx_l (w := (fun (z : Unit) => wM gm tr va bt (nI L) (nI nv) tx le fe so nx lf op ow ot pk pa fr zs iy ix wy nw)) (va_runV (As := []) (rest := [.long (tr)]) ⟨hx, hb, hml, hown, hts⟩ (c_X6_trace l (g := gm) (trace := tr) (value := va) (draft := bt) (typed := nI L) (vocables := nI nv) (letter := tx) (long1 := le) (feet := fe) (sort := so) (order := nx) (left := lf) (opn := op) (own := ow) (other := ot) (pick := pk) (parts := pa) (frm := fr) (size := zs) (isYear := iy) (isNext := ix) (ways := wy) (nextWays := nw) (sz := _)   hdm) (cwV 0 hts gL_law_X6_trace rfl rfl rfl (by decide +kernel) ⟨Nat.le_of_ble_eq_true rfl, Nat.le_of_ble_eq_true rfl⟩) (pre_V qW_bl (va_recv hKm hPm (ci := 6) (q0 := 0) rfl rfl) (fun U hU hW => ⟨by rw [hU], pW_of hPm hKm hN hU hW⟩)) rfl rfl hl.1 rfl (lv_room (Nat.le_of_ble_eq_true rfl)) dL_law_815 ⟨Nat.le_of_ble_eq_true rfl, Nat.le_of_ble_eq_true rfl⟩) hS ham (fun r2 z H locs hp hP9 hk hS => ?_)
  try dsimp only at hp
  have hP9 : va_P gm.1 vwCl (wM gm tr va bt (nI L) (nI nv) tx le fe so nx lf op ow ot pk pa fr zs iy ix wy nw) H := hP9
  have hX2 := PX_kept hX1 (fun j hj => hk _ (PX_lt hX1 hj) (aW_no (fun k hk2 h => hne j k hj hk2 h) (PX_lt hX1 hj)))
  rw [hp]
  have hM2 : PM gm tr va bt L tx le fe so nx nv H := ⟨_, _, _, _, _, _, _, _, _, _, _, _, hP9⟩
  refine W.lcmp hx hb dL_law_818 ?_
  refine lv_if_eq (tgt := 824) hx hb dL_law_819 (by decide) (fun _ => ?_) (fun c9 => absurd (lg_self _) c9)
  exact kk _ _ ls ⟨_, _, _, _, _, _, _, _, _, _, hX2, hM2, hO⟩ hS hl
