set_option maxHeartbeats 1000000 in
set_option maxRecDepth 100000 in
theorem law_value {p : Program} {l : Launch} {e : Env} {s : State} {m : MethodId} {below : List Frame} {meth : Method} {c : Code} {b Ls : Nat} {xs : Nat → Int32} {gx gm : GW} (C : lwC p s m meth c b Ls xs gx gm) {i : Nat} (hi : i + 8 ≤ Ls) (hL4 : Ls ≤ 4096) {tr : Int64} {va : Nat → Int32} {bt : Nat → Int32} {L : Nat} {tx : Nat → Int32} {le : Nat → Int32} {fe : Nat → Int32} {so : Nat → Int32} {nx : Nat → Int32} {nv : Nat} {H : Heap} {locs : List Loc} (hX : PX gx tr va bt L tx le fe so nx nv H) (hM : PM gm tr va bt L tx le fe so nx nv H) (hO : okC va L le fe so nv) (hS : va_S (fun q => s.heap.size ≤ q) s.heap H locs) {ls : Array Slot} (hl : lv_has ls 4 [(0, .ref b), (1, .ref (gx.2.2 0)), (2, .ref (gm.2.2 0)), (3, .int (nI i))]) (kk : ∀ (H : Heap) (locs : List Loc) (ls : Array Slot), lwE gx gm H → va_S (fun q => s.heap.size ≤ q) s.heap H locs → lv_has ls 4 [(0, .ref b), (1, .ref (gx.2.2 0)), (2, .ref (gm.2.2 0)), (3, .int (nI i))] → W p l e room_1 s m #[Value.ref b] below meth c H locs 44 136235 (lw_Z below #[Value.ref b] s) (F0 m 824 ls [])) : W p l e room_1 s m #[Value.ref b] below meth c H locs 44 136235 (lw_Z below #[Value.ref b] s) (F0 m 120 ls []) := by
  obtain ⟨⟨hx, hb, hr, hml, hown, hts0, hXs, hbl, hlocks, hgv⟩, hK, hKm, hN, hdx, hdm, hne, hax, ham, hst1, hst2⟩ := C
  have hown : s.vm.findClass RL = some m.cls := hown
  obtain ⟨hL2, hnv, hle, hfe, hso, hva⟩ := id hO
  have hts : ∀ w ∈ wsL_law, w.before #[Value.ref b] s = true := fun w h => hts0 w (wsL_law_in w h)
  have hbA : ¬ (fun q : Nat => s.heap.size ≤ q) b := Nat.not_le.mpr hbl
  obtain ⟨st, en, sm, os, ot, bf, kp, ov, rc, ru, ss, wy, nw, re, nr, fo, lt, gr, hP, hrow, hrok⟩ := id hX
  refine lv_aload_n hx hb dL_law_120 rfl (lv_at hl 1 rfl) ?_
  refine lv_aload_n hx hb dL_law_121 rfl (lv_at hl 0 rfl) ?_
  refine lv_iload_n hx hb dL_law_122 rfl (lv_at hl 3 rfl) ?_
  refine lv_iconst (v := nI 1) hx hb dL_law_123 (by decide) ?_
  refine ln_iadd hx hb dL_law_124 ?_
  refine an_sld hx hb hXs hbl hbA hS (by omega) (by omega) dL_law_125 ?_
  refine lv_aload_n hx hb dL_law_126 rfl (lv_at hl 0 rfl) ?_
  refine lv_iload_n hx hb dL_law_127 rfl (lv_at hl 3 rfl) ?_
  refine lv_iconst (v := nI 2) hx hb dL_law_128 (by decide) ?_
  refine ln_iadd hx hb dL_law_129 ?_
  refine an_sld hx hb hXs hbl hbA hS (by omega) (by omega) dL_law_130 ?_
  refine lv_aload_n hx hb dL_law_131 rfl (lv_at hl 0 rfl) ?_
  refine lv_iload_n hx hb dL_law_132 rfl (lv_at hl 3 rfl) ?_
  refine lv_iconst (v := nI 3) hx hb dL_law_133 (by decide) ?_
  refine ln_iadd hx hb dL_law_134 ?_
  refine an_sld hx hb hXs hbl hbA hS (by omega) (by omega) dL_law_135 ?_
  refine lx_i (w := (fun (z : (Nat → Int32) × Int32) => wX gx tr (z.1) bt st en (nI L) (nI (pn bt L)) tx le fe so nx (nI nv) sm os ot bf kp (z.2) rc ru ss wy nw re nr fo lt gr)) (va_runV (As := [.int (xs (i + 1)), .int (xs (i + 2)), .int (xs (i + 3))]) (rest := []) ⟨hx, hb, hml, hown, hts⟩ (c_X5_value l (g := gx) (asked := tr) (values := va) (bytes := bt) (starts := st) (ends := en) (length := nI L) (parts := nI (pn bt L)) (texts := tx) (lengths := le) (feet := fe) (sorts := so) (nxt := nx) (size := nI nv) (sums := sm) (oneSums := os) (otherSums := ot) (byFeet := bf) (kept := kp) (over := ov) (rcount := rc) (rcust := ru) (ssums := ss) (ways := wy) (nextWays := nw) (reached := re) (nextReached := nr) (found := fo) (least := lt) (greatest := gr) (sz := _) (xs (i + 1)) (xs (i + 2)) (xs (i + 3))  hdx) (cwV 3 hts gL_law_X5_value rfl rfl rfl (by decide +kernel) ⟨Nat.le_of_ble_eq_true rfl, Nat.le_of_ble_eq_true rfl⟩) (pre_V (fun U j mk a h => ⟨qW_bl U j mk a h.1, stS_bl U j mk a h.2⟩) (va_recv hK hP (ci := 5) (q0 := 0) rfl rfl) (fun U hU hW => ⟨⟨by rw [hU], pW_of hP hK hN hU hW⟩, stA_of hst1 hS hU hW⟩)) rfl rfl hl.1 rfl (lv_room (Nat.le_of_ble_eq_true rfl)) dL_law_136 ⟨Nat.le_of_ble_eq_true rfl, Nat.le_of_ble_eq_true rfl⟩) hS hax (fun r1 z H locs hp hP9 hk hS => ?_)
  obtain ⟨n_values, n_over⟩ := z
  try dsimp only at hp
  have hP9 : va_P gx.1 vwCl (wX gx tr n_values bt st en (nI L) (nI (pn bt L)) tx le fe so nx (nI nv) sm os ot bf kp n_over rc ru ss wy nw re nr fo lt gr) H := hP9
  have hM1 : PM gm tr va bt L tx le fe so nx nv H := PM_kept hM (fun j hj => hk _ (PM_lt hM hj) (aW_no (fun k hk2 h => hne k j hk2 hj h.symm) (PM_lt hM hj)))
  obtain ⟨hX1, hr9⟩ := PXn_value hP9 hrow hrok hp
  subst hr9
  obtain ⟨lf, op, ow, ot, pk, pa, fr, zs, iy, ix, wy, nw, hPm⟩ := id hM1
  refine lv_aload_n hx hb dL_law_139 rfl (lv_at hl 2 rfl) ?_
  refine lv_aload_n hx hb dL_law_140 rfl (lv_at hl 0 rfl) ?_
  refine lv_iload_n hx hb dL_law_141 rfl (lv_at hl 3 rfl) ?_
  refine lv_iconst (v := nI 1) hx hb dL_law_142 (by decide) ?_
  refine ln_iadd hx hb dL_law_143 ?_
  refine an_sld hx hb hXs hbl hbA hS (by omega) (by omega) dL_law_144 ?_
  refine lv_aload_n hx hb dL_law_145 rfl (lv_at hl 0 rfl) ?_
  refine lv_iload_n hx hb dL_law_146 rfl (lv_at hl 3 rfl) ?_
  refine lv_iconst (v := nI 2) hx hb dL_law_147 (by decide) ?_
  refine ln_iadd hx hb dL_law_148 ?_
  refine an_sld hx hb hXs hbl hbA hS (by omega) (by omega) dL_law_149 ?_
  refine lv_aload_n hx hb dL_law_150 rfl (lv_at hl 0 rfl) ?_
  refine lv_iload_n hx hb dL_law_151 rfl (lv_at hl 3 rfl) ?_
  refine lv_iconst (v := nI 3) hx hb dL_law_152 (by decide) ?_
  refine ln_iadd hx hb dL_law_153 ?_
  refine an_sld hx hb hXs hbl hbA hS (by omega) (by omega) dL_law_154 ?_
  refine lx_i (w := (fun (z : (Nat → Int32)) => wM gm tr z bt (nI L) (nI nv) tx le fe so nx lf op ow ot pk pa fr zs iy ix wy nw)) (va_runV (As := [.int (xs (i + 1)), .int (xs (i + 2)), .int (xs (i + 3))]) (rest := [.int (rValue va (xs (i + 1)) (xs (i + 2)) (xs (i + 3)))]) ⟨hx, hb, hml, hown, hts⟩ (c_X6_value l (g := gm) (trace := tr) (value := va) (draft := bt) (typed := nI L) (vocables := nI nv) (letter := tx) (long1 := le) (feet := fe) (sort := so) (order := nx) (left := lf) (opn := op) (own := ow) (other := ot) (pick := pk) (parts := pa) (frm := fr) (size := zs) (isYear := iy) (isNext := ix) (ways := wy) (nextWays := nw) (sz := _) (xs (i + 1)) (xs (i + 2)) (xs (i + 3))  hdm) (cwV 3 hts gL_law_X6_value rfl rfl rfl (by decide +kernel) ⟨Nat.le_of_ble_eq_true rfl, Nat.le_of_ble_eq_true rfl⟩) (pre_V qW_bl (va_recv hKm hPm (ci := 6) (q0 := 0) rfl rfl) (fun U hU hW => ⟨by rw [hU], pW_of hPm hKm hN hU hW⟩)) rfl rfl hl.1 rfl (lv_room (Nat.le_of_ble_eq_true rfl)) dL_law_155 ⟨Nat.le_of_ble_eq_true rfl, Nat.le_of_ble_eq_true rfl⟩) hS ham (fun r2 z H locs hp hP9 hk hS => ?_)
  obtain ⟨n_value, rfl⟩ : ∃ y, y = z := ⟨_, rfl⟩
  try dsimp only at hp
  have hP9 : va_P gm.1 vwCl (wM gm tr n_value bt (nI L) (nI nv) tx le fe so nx lf op ow ot pk pa fr zs iy ix wy nw) H := hP9
  have hX2 := PX_kept hX1 (fun j hj => hk _ (PX_lt hX1 hj) (aW_no (fun k hk2 h => hne j k hj hk2 h) (PX_lt hX1 hj)))
  obtain ⟨hM2, hr9⟩ := PMn_value hP9 hp
  subst hr9
  refine lv_icmp_eq (tgt := 824) hx hb dL_law_158 (by decide) (fun _ => ?_) (fun c9 => absurd rfl c9)
  exact kk _ _ ls ⟨_, _, _, _, _, _, _, _, _, _, hX2, hM2, okC_value hO _ _ _⟩ hS hl
set_option maxHeartbeats 1000000 in
set_option maxRecDepth 100000 in
theorem law_worth {p : Program} {l : Launch} {e : Env} {s : State} {m : MethodId} {below : List Frame} {meth : Method} {c : Code} {b Ls : Nat} {xs : Nat → Int32} {gx gm : GW} (C : lwC p s m meth c b Ls xs gx gm) {i : Nat} (hi : i + 8 ≤ Ls) (hL4 : Ls ≤ 4096) {tr : Int64} {va : Nat → Int32} {bt : Nat → Int32} {L : Nat} {tx : Nat → Int32} {le : Nat → Int32} {fe : Nat → Int32} {so : Nat → Int32} {nx : Nat → Int32} {nv : Nat} {H : Heap} {locs : List Loc} (hX : PX gx tr va bt L tx le fe so nx nv H) (hM : PM gm tr va bt L tx le fe so nx nv H) (hO : okC va L le fe so nv) (hS : va_S (fun q => s.heap.size ≤ q) s.heap H locs) {ls : Array Slot} (hl : lv_has ls 4 [(0, .ref b), (1, .ref (gx.2.2 0)), (2, .ref (gm.2.2 0)), (3, .int (nI i))]) (kk : ∀ (H : Heap) (locs : List Loc) (ls : Array Slot), lwE gx gm H → va_S (fun q => s.heap.size ≤ q) s.heap H locs → lv_has ls 4 [(0, .ref b), (1, .ref (gx.2.2 0)), (2, .ref (gm.2.2 0)), (3, .int (nI i))] → W p l e room_1 s m #[Value.ref b] below meth c H locs 44 136235 (lw_Z below #[Value.ref b] s) (F0 m 824 ls [])) : W p l e room_1 s m #[Value.ref b] below meth c H locs 44 136235 (lw_Z below #[Value.ref b] s) (F0 m 163 ls []) := by
  obtain ⟨⟨hx, hb, hr, hml, hown, hts0, hXs, hbl, hlocks, hgv⟩, hK, hKm, hN, hdx, hdm, hne, hax, ham, hst1, hst2⟩ := C
  have hown : s.vm.findClass RL = some m.cls := hown
  obtain ⟨hL2, hnv, hle, hfe, hso, hva⟩ := id hO
  have hts : ∀ w ∈ wsL_law, w.before #[Value.ref b] s = true := fun w h => hts0 w (wsL_law_in w h)
  have hbA : ¬ (fun q : Nat => s.heap.size ≤ q) b := Nat.not_le.mpr hbl
  obtain ⟨st, en, sm, os, ot, bf, kp, ov, rc, ru, ss, wy, nw, re, nr, fo, lt, gr, hP, hrow, hrok⟩ := id hX
  refine lv_aload_n hx hb dL_law_163 rfl (lv_at hl 1 rfl) ?_
  refine lv_aload_n hx hb dL_law_164 rfl (lv_at hl 0 rfl) ?_
  refine lv_iload_n hx hb dL_law_165 rfl (lv_at hl 3 rfl) ?_
  refine lv_iconst (v := nI 1) hx hb dL_law_166 (by decide) ?_
  refine ln_iadd hx hb dL_law_167 ?_
  refine an_sld hx hb hXs hbl hbA hS (by omega) (by omega) dL_law_168 ?_
  refine lv_aload_n hx hb dL_law_169 rfl (lv_at hl 0 rfl) ?_
  refine lv_iload_n hx hb dL_law_170 rfl (lv_at hl 3 rfl) ?_
  refine lv_iconst (v := nI 2) hx hb dL_law_171 (by decide) ?_
  refine ln_iadd hx hb dL_law_172 ?_
  refine an_sld hx hb hXs hbl hbA hS (by omega) (by omega) dL_law_173 ?_
  refine lv_aload_n hx hb dL_law_174 rfl (lv_at hl 0 rfl) ?_
  refine lv_iload_n hx hb dL_law_175 rfl (lv_at hl 3 rfl) ?_
  refine lv_iconst (v := nI 3) hx hb dL_law_176 (by decide) ?_
  refine ln_iadd hx hb dL_law_177 ?_
  refine an_sld hx hb hXs hbl hbA hS (by omega) (by omega) dL_law_178 ?_
  refine lv_aload_n hx hb dL_law_179 rfl (lv_at hl 0 rfl) ?_
  refine lv_iload_n hx hb dL_law_180 rfl (lv_at hl 3 rfl) ?_
  refine lv_iconst (v := nI 4) hx hb dL_law_181 (by decide) ?_
  refine ln_iadd hx hb dL_law_182 ?_
  refine an_sld hx hb hXs hbl hbA hS (by omega) (by omega) dL_law_183 ?_
  refine lx_i (w := (fun (z : Int64) => wX gx z va bt st en (nI L) (nI (pn bt L)) tx le fe so nx (nI nv) sm os ot bf kp ov rc ru ss wy nw re nr fo lt gr)) (va_runV (As := [.int (xs (i + 1)), .int (xs (i + 2)), .int (xs (i + 3)), .int (xs (i + 4))]) (rest := []) ⟨hx, hb, hml, hown, hts⟩ (c_X5_worth l (g := gx) (asked := tr) (values := va) (bytes := bt) (starts := st) (ends := en) (length := nI L) (parts := nI (pn bt L)) (texts := tx) (lengths := le) (feet := fe) (sorts := so) (nxt := nx) (size := nI nv) (sums := sm) (oneSums := os) (otherSums := ot) (byFeet := bf) (kept := kp) (over := ov) (rcount := rc) (rcust := ru) (ssums := ss) (ways := wy) (nextWays := nw) (reached := re) (nextReached := nr) (found := fo) (least := lt) (greatest := gr) (sz := _) (xs (i + 1)) (xs (i + 2)) (xs (i + 3)) (xs (i + 4))  hdx) (cwV 4 hts gL_law_X5_worth rfl rfl rfl (by decide +kernel) ⟨Nat.le_of_ble_eq_true rfl, Nat.le_of_ble_eq_true rfl⟩) (pre_V (fun U j mk a h => ⟨qW_bl U j mk a h.1, stS_bl U j mk a h.2⟩) (va_recv hK hP (ci := 5) (q0 := 0) rfl rfl) (fun U hU hW => ⟨⟨by rw [hU], pW_of hP hK hN hU hW⟩, stA_of hst2 hS hU hW⟩)) rfl rfl hl.1 rfl (lv_room (Nat.le_of_ble_eq_true rfl)) dL_law_184 ⟨Nat.le_of_ble_eq_true rfl, Nat.le_of_ble_eq_true rfl⟩) hS hax (fun r1 z H locs hp hP9 hk hS => ?_)
  obtain ⟨n_asked, rfl⟩ : ∃ y, y = z := ⟨_, rfl⟩
  try dsimp only at hp
  have hP9 : va_P gx.1 vwCl (wX gx n_asked va bt st en (nI L) (nI (pn bt L)) tx le fe so nx (nI nv) sm os ot bf kp ov rc ru ss wy nw re nr fo lt gr) H := hP9
  have hM1 : PM gm tr va bt L tx le fe so nx nv H := PM_kept hM (fun j hj => hk _ (PM_lt hM hj) (aW_no (fun k hk2 h => hne k j hk2 hj h.symm) (PM_lt hM hj)))
  obtain ⟨hX1, hr9⟩ := PXn_worth hP9 hrow hrok hp
  subst hr9
  obtain ⟨lf, op, ow, ot, pk, pa, fr, zs, iy, ix, wy, nw, hPm⟩ := id hM1
  refine lv_aload_n hx hb dL_law_187 rfl (lv_at hl 2 rfl) ?_
  refine lv_aload_n hx hb dL_law_188 rfl (lv_at hl 0 rfl) ?_
  refine lv_iload_n hx hb dL_law_189 rfl (lv_at hl 3 rfl) ?_
  refine lv_iconst (v := nI 1) hx hb dL_law_190 (by decide) ?_
  refine ln_iadd hx hb dL_law_191 ?_
  refine an_sld hx hb hXs hbl hbA hS (by omega) (by omega) dL_law_192 ?_
  refine lv_aload_n hx hb dL_law_193 rfl (lv_at hl 0 rfl) ?_
  refine lv_iload_n hx hb dL_law_194 rfl (lv_at hl 3 rfl) ?_
  refine lv_iconst (v := nI 2) hx hb dL_law_195 (by decide) ?_
  refine ln_iadd hx hb dL_law_196 ?_
  refine an_sld hx hb hXs hbl hbA hS (by omega) (by omega) dL_law_197 ?_
  refine lv_aload_n hx hb dL_law_198 rfl (lv_at hl 0 rfl) ?_
  refine lv_iload_n hx hb dL_law_199 rfl (lv_at hl 3 rfl) ?_
  refine lv_iconst (v := nI 3) hx hb dL_law_200 (by decide) ?_
  refine ln_iadd hx hb dL_law_201 ?_
  refine an_sld hx hb hXs hbl hbA hS (by omega) (by omega) dL_law_202 ?_
  refine lv_aload_n hx hb dL_law_203 rfl (lv_at hl 0 rfl) ?_
  refine lv_iload_n hx hb dL_law_204 rfl (lv_at hl 3 rfl) ?_
  refine lv_iconst (v := nI 4) hx hb dL_law_205 (by decide) ?_
  refine ln_iadd hx hb dL_law_206 ?_
  refine an_sld hx hb hXs hbl hbA hS (by omega) (by omega) dL_law_207 ?_
  refine lx_i (w := (fun (z : Int64) => wM gm z va bt (nI L) (nI nv) tx le fe so nx lf op ow ot pk pa fr zs iy ix wy nw)) (va_runV (As := [.int (xs (i + 1)), .int (xs (i + 2)), .int (xs (i + 3)), .int (xs (i + 4))]) (rest := [.int (rWorth va (xs (i + 1)) (xs (i + 2)) (xs (i + 3)) (xs (i + 4)))]) ⟨hx, hb, hml, hown, hts⟩ (c_X6_worth l (g := gm) (trace := tr) (value := va) (draft := bt) (typed := nI L) (vocables := nI nv) (letter := tx) (long1 := le) (feet := fe) (sort := so) (order := nx) (left := lf) (opn := op) (own := ow) (other := ot) (pick := pk) (parts := pa) (frm := fr) (size := zs) (isYear := iy) (isNext := ix) (ways := wy) (nextWays := nw) (sz := _) (xs (i + 1)) (xs (i + 2)) (xs (i + 3)) (xs (i + 4))  hdm) (cwV 4 hts gL_law_X6_worth rfl rfl rfl (by decide +kernel) ⟨Nat.le_of_ble_eq_true rfl, Nat.le_of_ble_eq_true rfl⟩) (pre_V qW_bl (va_recv hKm hPm (ci := 6) (q0 := 0) rfl rfl) (fun U hU hW => ⟨by rw [hU], pW_of hPm hKm hN hU hW⟩)) rfl rfl hl.1 rfl (lv_room (Nat.le_of_ble_eq_true rfl)) dL_law_208 ⟨Nat.le_of_ble_eq_true rfl, Nat.le_of_ble_eq_true rfl⟩) hS ham (fun r2 z H locs hp hP9 hk hS => ?_)
  obtain ⟨n_trace, rfl⟩ : ∃ y, y = z := ⟨_, rfl⟩
  try dsimp only at hp
  have hP9 : va_P gm.1 vwCl (wM gm n_trace va bt (nI L) (nI nv) tx le fe so nx lf op ow ot pk pa fr zs iy ix wy nw) H := hP9
  have hX2 := PX_kept hX1 (fun j hj => hk _ (PX_lt hX1 hj) (aW_no (fun k hk2 h => hne j k hj hk2 h) (PX_lt hX1 hj)))
  obtain ⟨hM2, hr9⟩ := PMn_worth hP9 hp
  subst hr9
  refine lv_icmp_eq (tgt := 824) hx hb dL_law_211 (by decide) (fun _ => ?_) (fun c9 => absurd rfl c9)
  exact kk _ _ ls ⟨_, _, _, _, _, _, _, _, _, _, hX2, hM2, hO⟩ hS hl
set_option maxHeartbeats 1000000 in
set_option maxRecDepth 100000 in
theorem law_type {p : Program} {l : Launch} {e : Env} {s : State} {m : MethodId} {below : List Frame} {meth : Method} {c : Code} {b Ls : Nat} {xs : Nat → Int32} {gx gm : GW} (C : lwC p s m meth c b Ls xs gx gm) {i : Nat} (hi : i + 8 ≤ Ls) (hL4 : Ls ≤ 4096) {tr : Int64} {va : Nat → Int32} {bt : Nat → Int32} {L : Nat} {tx : Nat → Int32} {le : Nat → Int32} {fe : Nat → Int32} {so : Nat → Int32} {nx : Nat → Int32} {nv : Nat} {H : Heap} {locs : List Loc} (hX : PX gx tr va bt L tx le fe so nx nv H) (hM : PM gm tr va bt L tx le fe so nx nv H) (hO : okC va L le fe so nv) (hS : va_S (fun q => s.heap.size ≤ q) s.heap H locs) {ls : Array Slot} (hl : lv_has ls 4 [(0, .ref b), (1, .ref (gx.2.2 0)), (2, .ref (gm.2.2 0)), (3, .int (nI i))]) (kk : ∀ (H : Heap) (locs : List Loc) (ls : Array Slot), lwE gx gm H → va_S (fun q => s.heap.size ≤ q) s.heap H locs → lv_has ls 4 [(0, .ref b), (1, .ref (gx.2.2 0)), (2, .ref (gm.2.2 0)), (3, .int (nI i))] → W p l e room_1 s m #[Value.ref b] below meth c H locs 44 136235 (lw_Z below #[Value.ref b] s) (F0 m 824 ls [])) : W p l e room_1 s m #[Value.ref b] below meth c H locs 44 136235 (lw_Z below #[Value.ref b] s) (F0 m 216 ls []) := by
  obtain ⟨⟨hx, hb, hr, hml, hown, hts0, hXs, hbl, hlocks, hgv⟩, hK, hKm, hN, hdx, hdm, hne, hax, ham, hst1, hst2⟩ := C
  have hown : s.vm.findClass RL = some m.cls := hown
  obtain ⟨hL2, hnv, hle, hfe, hso, hva⟩ := id hO
  have hts : ∀ w ∈ wsL_law, w.before #[Value.ref b] s = true := fun w h => hts0 w (wsL_law_in w h)
  have hbA : ¬ (fun q : Nat => s.heap.size ≤ q) b := Nat.not_le.mpr hbl
  obtain ⟨st, en, sm, os, ot, bf, kp, ov, rc, ru, ss, wy, nw, re, nr, fo, lt, gr, hP, hrow, hrok⟩ := id hX
  refine lv_aload_n hx hb dL_law_216 rfl (lv_at hl 1 rfl) ?_
  refine lv_aload_n hx hb dL_law_217 rfl (lv_at hl 0 rfl) ?_
  refine lv_iload_n hx hb dL_law_218 rfl (lv_at hl 3 rfl) ?_
  refine lv_iconst (v := nI 1) hx hb dL_law_219 (by decide) ?_
  refine ln_iadd hx hb dL_law_220 ?_
  refine an_sld hx hb hXs hbl hbA hS (by omega) (by omega) dL_law_221 ?_
  refine lv_i2l hx hb dL_law_222 rfl ?_
  refine lv_bipush (v := nI 32) hx hb dL_law_223 (by decide) ?_
  refine lv_lshl hx hb dL_law_225 rfl ?_
  refine lv_aload_n hx hb dL_law_226 rfl (lv_at hl 0 rfl) ?_
  refine lv_iload_n hx hb dL_law_227 rfl (lv_at hl 3 rfl) ?_
  refine lv_iconst (v := nI 2) hx hb dL_law_228 (by decide) ?_
  refine ln_iadd hx hb dL_law_229 ?_
  refine an_sld hx hb hXs hbl hbA hS (by omega) (by omega) dL_law_230 ?_
  refine lv_i2l hx hb dL_law_231 rfl ?_
  refine lv_ldc2 hx hb hown (hts (.constantLong RL 23 (4294967295)) (by decide +kernel)) dL_law_232 ?_
  refine ln_tol (y := lN 4294967295) (by decide) ?_
  refine lv_land hx hb dL_law_235 ?_
  refine lv_lor hx hb dL_law_236 ?_
  refine ln_tol (y := lgA (xs (i + 1)) (xs (i + 2))) rfl ?_
  refine lv_aload_n hx hb dL_law_237 rfl (lv_at hl 0 rfl) ?_
  refine lv_iload_n hx hb dL_law_238 rfl (lv_at hl 3 rfl) ?_
  refine lv_iconst (v := nI 3) hx hb dL_law_239 (by decide) ?_
  refine ln_iadd hx hb dL_law_240 ?_
  refine an_sld hx hb hXs hbl hbA hS (by omega) (by omega) dL_law_241 ?_
  refine lx_i (w := (fun (z : (Nat → Int32) × (Nat → Int32) × (Nat → Int32) × Int32 × Int32) => wX gx tr va (z.1) (z.2.1) (z.2.2.1) (z.2.2.2.1) (z.2.2.2.2) tx le fe so nx (nI nv) sm os ot bf kp ov rc ru ss wy nw re nr fo lt gr)) (va_runV (As := [.long (lgA (xs (i + 1)) (xs (i + 2))), .int (xs (i + 3))]) (rest := []) ⟨hx, hb, hml, hown, hts⟩ (c_X5_type l (g := gx) (asked := tr) (values := va) (bytes := bt) (starts := st) (ends := en) (L := L) (parts := nI (pn bt L)) (texts := tx) (lengths := le) (feet := fe) (sorts := so) (nxt := nx) (size := nI nv) (sums := sm) (oneSums := os) (otherSums := ot) (byFeet := bf) (kept := kp) (over := ov) (rcount := rc) (rcust := ru) (ssums := ss) (ways := wy) (nextWays := nw) (reached := re) (nextReached := nr) (found := fo) (least := lt) (greatest := gr) (sz := _) (lgA (xs (i + 1)) (xs (i + 2))) (xs (i + 3)) hL2 hdx) (cwV 2 hts gL_law_X5_type rfl rfl rfl (by decide +kernel) ⟨Nat.le_of_ble_eq_true rfl, Nat.le_of_ble_eq_true rfl⟩) (pre_V qW_bl (va_recv hK hP (ci := 5) (q0 := 0) rfl rfl) (fun U hU hW => ⟨by rw [hU], pW_of hP hK hN hU hW⟩)) rfl rfl hl.1 rfl (lv_room (Nat.le_of_ble_eq_true rfl)) dL_law_242 ⟨Nat.le_of_ble_eq_true rfl, Nat.le_of_ble_eq_true rfl⟩) hS hax (fun r1 z H locs hp hP9 hk hS => ?_)
  obtain ⟨n_bytes, n_starts, n_ends, n_length, n_parts⟩ := z
  try dsimp only at hp
  have hP9 : va_P gx.1 vwCl (wX gx tr va n_bytes n_starts n_ends n_length n_parts tx le fe so nx (nI nv) sm os ot bf kp ov rc ru ss wy nw re nr fo lt gr) H := hP9
  have hM1 : PM gm tr va bt L tx le fe so nx nv H := PM_kept hM (fun j hj => hk _ (PM_lt hM hj) (aW_no (fun k hk2 h => hne k j hk2 hj h.symm) (PM_lt hM hj)))
  obtain ⟨hX1, hr9⟩ := PXn_type hP9 hrow hrok hp
  subst hr9
  obtain ⟨lf, op, ow, ot, pk, pa, fr, zs, iy, ix, wy, nw, hPm⟩ := id hM1
  refine lv_aload_n hx hb dL_law_245 rfl (lv_at hl 2 rfl) ?_
  refine lv_aload_n hx hb dL_law_246 rfl (lv_at hl 0 rfl) ?_
  refine lv_iload_n hx hb dL_law_247 rfl (lv_at hl 3 rfl) ?_
  refine lv_iconst (v := nI 1) hx hb dL_law_248 (by decide) ?_
  refine ln_iadd hx hb dL_law_249 ?_
  refine an_sld hx hb hXs hbl hbA hS (by omega) (by omega) dL_law_250 ?_
  refine lv_i2l hx hb dL_law_251 rfl ?_
  refine lv_bipush (v := nI 32) hx hb dL_law_252 (by decide) ?_
  refine lv_lshl hx hb dL_law_254 rfl ?_
  refine lv_aload_n hx hb dL_law_255 rfl (lv_at hl 0 rfl) ?_
  refine lv_iload_n hx hb dL_law_256 rfl (lv_at hl 3 rfl) ?_
  refine lv_iconst (v := nI 2) hx hb dL_law_257 (by decide) ?_
  refine ln_iadd hx hb dL_law_258 ?_
  refine an_sld hx hb hXs hbl hbA hS (by omega) (by omega) dL_law_259 ?_
  refine lv_i2l hx hb dL_law_260 rfl ?_
  refine lv_ldc2 hx hb hown (hts (.constantLong RL 23 (4294967295)) (by decide +kernel)) dL_law_261 ?_
  refine ln_tol (y := lN 4294967295) (by decide) ?_
  refine lv_land hx hb dL_law_264 ?_
  refine lv_lor hx hb dL_law_265 ?_
  refine ln_tol (y := lgA (xs (i + 1)) (xs (i + 2))) rfl ?_
  refine lv_aload_n hx hb dL_law_266 rfl (lv_at hl 0 rfl) ?_
  refine lv_iload_n hx hb dL_law_267 rfl (lv_at hl 3 rfl) ?_
  refine lv_iconst (v := nI 3) hx hb dL_law_268 (by decide) ?_
  refine ln_iadd hx hb dL_law_269 ?_
  refine an_sld hx hb hXs hbl hbA hS (by omega) (by omega) dL_law_270 ?_
  refine lx_i (w := (fun (z : (Nat → Int32) × Int32) => wM gm tr va (z.1) (z.2) (nI nv) tx le fe so nx lf op ow ot pk pa fr zs iy ix wy nw)) (va_runV (As := [.long (lgA (xs (i + 1)) (xs (i + 2))), .int (xs (i + 3))]) (rest := [.int (rType L (lgA (xs (i + 1)) (xs (i + 2))) (xs (i + 3)))]) ⟨hx, hb, hml, hown, hts⟩ (c_X6_type l (g := gm) (trace := tr) (value := va) (draft := bt) (L := L) (vocables := nI nv) (letter := tx) (long1 := le) (feet := fe) (sort := so) (order := nx) (left := lf) (opn := op) (own := ow) (other := ot) (pick := pk) (parts := pa) (frm := fr) (size := zs) (isYear := iy) (isNext := ix) (ways := wy) (nextWays := nw) (sz := _) (lgA (xs (i + 1)) (xs (i + 2))) (xs (i + 3)) hL2 hdm) (cwV 2 hts gL_law_X6_type rfl rfl rfl (by decide +kernel) ⟨Nat.le_of_ble_eq_true rfl, Nat.le_of_ble_eq_true rfl⟩) (pre_V qW_bl (va_recv hKm hPm (ci := 6) (q0 := 0) rfl rfl) (fun U hU hW => ⟨by rw [hU], pW_of hPm hKm hN hU hW⟩)) rfl rfl hl.1 rfl (lv_room (Nat.le_of_ble_eq_true rfl)) dL_law_271 ⟨Nat.le_of_ble_eq_true rfl, Nat.le_of_ble_eq_true rfl⟩) hS ham (fun r2 z H locs hp hP9 hk hS => ?_)
  obtain ⟨n_draft, n_typed⟩ := z
  try dsimp only at hp
  have hP9 : va_P gm.1 vwCl (wM gm tr va n_draft n_typed (nI nv) tx le fe so nx lf op ow ot pk pa fr zs iy ix wy nw) H := hP9
  have hX2 := PX_kept hX1 (fun j hj => hk _ (PX_lt hX1 hj) (aW_no (fun k hk2 h => hne j k hj hk2 h) (PX_lt hX1 hj)))
  obtain ⟨hM2, hr9⟩ := PMn_type hP9 hp
  subst hr9
  refine lv_icmp_eq (tgt := 824) hx hb dL_law_274 (by decide) (fun _ => ?_) (fun c9 => absurd rfl c9)
  exact kk _ _ ls ⟨_, _, _, _, _, _, _, _, _, _, hX2, hM2, okC_type hO _ _⟩ hS hl
set_option maxHeartbeats 1000000 in
set_option maxRecDepth 100000 in
theorem law_clear {p : Program} {l : Launch} {e : Env} {s : State} {m : MethodId} {below : List Frame} {meth : Method} {c : Code} {b Ls : Nat} {xs : Nat → Int32} {gx gm : GW} (C : lwC p s m meth c b Ls xs gx gm) {i : Nat} (hi : i + 8 ≤ Ls) (hL4 : Ls ≤ 4096) {tr : Int64} {va : Nat → Int32} {bt : Nat → Int32} {L : Nat} {tx : Nat → Int32} {le : Nat → Int32} {fe : Nat → Int32} {so : Nat → Int32} {nx : Nat → Int32} {nv : Nat} {H : Heap} {locs : List Loc} (hX : PX gx tr va bt L tx le fe so nx nv H) (hM : PM gm tr va bt L tx le fe so nx nv H) (hO : okC va L le fe so nv) (hS : va_S (fun q => s.heap.size ≤ q) s.heap H locs) {ls : Array Slot} (hl : lv_has ls 4 [(0, .ref b), (1, .ref (gx.2.2 0)), (2, .ref (gm.2.2 0)), (3, .int (nI i))]) (kk : ∀ (H : Heap) (locs : List Loc) (ls : Array Slot), lwE gx gm H → va_S (fun q => s.heap.size ≤ q) s.heap H locs → lv_has ls 4 [(0, .ref b), (1, .ref (gx.2.2 0)), (2, .ref (gm.2.2 0)), (3, .int (nI i))] → W p l e room_1 s m #[Value.ref b] below meth c H locs 44 136235 (lw_Z below #[Value.ref b] s) (F0 m 824 ls [])) : W p l e room_1 s m #[Value.ref b] below meth c H locs 44 136235 (lw_Z below #[Value.ref b] s) (F0 m 279 ls []) := by
  obtain ⟨⟨hx, hb, hr, hml, hown, hts0, hXs, hbl, hlocks, hgv⟩, hK, hKm, hN, hdx, hdm, hne, hax, ham, hst1, hst2⟩ := C
  have hown : s.vm.findClass RL = some m.cls := hown
  obtain ⟨hL2, hnv, hle, hfe, hso, hva⟩ := id hO
  have hts : ∀ w ∈ wsL_law, w.before #[Value.ref b] s = true := fun w h => hts0 w (wsL_law_in w h)
  have hbA : ¬ (fun q : Nat => s.heap.size ≤ q) b := Nat.not_le.mpr hbl
  obtain ⟨st, en, sm, os, ot, bf, kp, ov, rc, ru, ss, wy, nw, re, nr, fo, lt, gr, hP, hrow, hrok⟩ := id hX
  refine lv_aload_n hx hb dL_law_279 rfl (lv_at hl 1 rfl) ?_
  refine lx_i (w := (fun (z : Int32 × Int32) => wX gx tr va bt st en (z.1) (z.2) tx le fe so nx (nI nv) sm os ot bf kp ov rc ru ss wy nw re nr fo lt gr)) (va_runV (As := []) (rest := []) ⟨hx, hb, hml, hown, hts⟩ (c_X5_clear l (g := gx) (asked := tr) (values := va) (bytes := bt) (starts := st) (ends := en) (L := L) (parts := nI (pn bt L)) (texts := tx) (lengths := le) (feet := fe) (sorts := so) (nxt := nx) (size := nI nv) (sums := sm) (oneSums := os) (otherSums := ot) (byFeet := bf) (kept := kp) (over := ov) (rcount := rc) (rcust := ru) (ssums := ss) (ways := wy) (nextWays := nw) (reached := re) (nextReached := nr) (found := fo) (least := lt) (greatest := gr) (sz := _)   hdx) (cwV 0 hts gL_law_X5_clear rfl rfl rfl (by decide +kernel) ⟨Nat.le_of_ble_eq_true rfl, Nat.le_of_ble_eq_true rfl⟩) (pre_V qW_bl (va_recv hK hP (ci := 5) (q0 := 0) rfl rfl) (fun U hU hW => ⟨by rw [hU], pW_of hP hK hN hU hW⟩)) rfl rfl hl.1 rfl (lv_room (Nat.le_of_ble_eq_true rfl)) dL_law_280 ⟨Nat.le_of_ble_eq_true rfl, Nat.le_of_ble_eq_true rfl⟩) hS hax (fun r1 z H locs hp hP9 hk hS => ?_)
  obtain ⟨n_length, n_parts⟩ := z
  try dsimp only at hp
  have hP9 : va_P gx.1 vwCl (wX gx tr va bt st en n_length n_parts tx le fe so nx (nI nv) sm os ot bf kp ov rc ru ss wy nw re nr fo lt gr) H := hP9
  have hM1 : PM gm tr va bt L tx le fe so nx nv H := PM_kept hM (fun j hj => hk _ (PM_lt hM hj) (aW_no (fun k hk2 h => hne k j hk2 hj h.symm) (PM_lt hM hj)))
  obtain ⟨hX1, hr9⟩ := PXn_clear hP9 hrow hrok hp
  subst hr9
  obtain ⟨lf, op, ow, ot, pk, pa, fr, zs, iy, ix, wy, nw, hPm⟩ := id hM1
  refine lv_aload_n hx hb dL_law_283 rfl (lv_at hl 2 rfl) ?_
  refine lx_i (w := (fun (z : Int32) => wM gm tr va bt z (nI nv) tx le fe so nx lf op ow ot pk pa fr zs iy ix wy nw)) (va_runV (As := []) (rest := [.int (nI L)]) ⟨hx, hb, hml, hown, hts⟩ (c_X6_clear l (g := gm) (trace := tr) (value := va) (draft := bt) (L := L) (vocables := nI nv) (letter := tx) (long1 := le) (feet := fe) (sort := so) (order := nx) (left := lf) (opn := op) (own := ow) (other := ot) (pick := pk) (parts := pa) (frm := fr) (size := zs) (isYear := iy) (isNext := ix) (ways := wy) (nextWays := nw) (sz := _)   hdm) (cwV 0 hts gL_law_X6_clear rfl rfl rfl (by decide +kernel) ⟨Nat.le_of_ble_eq_true rfl, Nat.le_of_ble_eq_true rfl⟩) (pre_V qW_bl (va_recv hKm hPm (ci := 6) (q0 := 0) rfl rfl) (fun U hU hW => ⟨by rw [hU], pW_of hPm hKm hN hU hW⟩)) rfl rfl hl.1 rfl (lv_room (Nat.le_of_ble_eq_true rfl)) dL_law_284 ⟨Nat.le_of_ble_eq_true rfl, Nat.le_of_ble_eq_true rfl⟩) hS ham (fun r2 z H locs hp hP9 hk hS => ?_)
  obtain ⟨n_typed, rfl⟩ : ∃ y, y = z := ⟨_, rfl⟩
  try dsimp only at hp
  have hP9 : va_P gm.1 vwCl (wM gm tr va bt n_typed (nI nv) tx le fe so nx lf op ow ot pk pa fr zs iy ix wy nw) H := hP9
  have hX2 := PX_kept hX1 (fun j hj => hk _ (PX_lt hX1 hj) (aW_no (fun k hk2 h => hne j k hj hk2 h) (PX_lt hX1 hj)))
  obtain ⟨hM2, hr9⟩ := PMn_clear hP9 hp
  subst hr9
  refine lv_icmp_eq (tgt := 824) hx hb dL_law_287 (by decide) (fun _ => ?_) (fun c9 => absurd rfl c9)
  exact kk _ _ ls ⟨_, _, _, _, _, _, _, _, _, _, hX2, hM2, okC_clear hO⟩ hS hl
set_option maxHeartbeats 1000000 in
set_option maxRecDepth 100000 in
theorem law_sum {p : Program} {l : Launch} {e : Env} {s : State} {m : MethodId} {below : List Frame} {meth : Method} {c : Code} {b Ls : Nat} {xs : Nat → Int32} {gx gm : GW} (C : lwC p s m meth c b Ls xs gx gm) {i : Nat} (hi : i + 8 ≤ Ls) (hL4 : Ls ≤ 4096) {tr : Int64} {va : Nat → Int32} {bt : Nat → Int32} {L : Nat} {tx : Nat → Int32} {le : Nat → Int32} {fe : Nat → Int32} {so : Nat → Int32} {nx : Nat → Int32} {nv : Nat} {H : Heap} {locs : List Loc} (hX : PX gx tr va bt L tx le fe so nx nv H) (hM : PM gm tr va bt L tx le fe so nx nv H) (hO : okC va L le fe so nv) (hS : va_S (fun q => s.heap.size ≤ q) s.heap H locs) {ls : Array Slot} (hl : lv_has ls 4 [(0, .ref b), (1, .ref (gx.2.2 0)), (2, .ref (gm.2.2 0)), (3, .int (nI i))]) (kk : ∀ (H : Heap) (locs : List Loc) (ls : Array Slot), lwE gx gm H → va_S (fun q => s.heap.size ≤ q) s.heap H locs → lv_has ls 4 [(0, .ref b), (1, .ref (gx.2.2 0)), (2, .ref (gm.2.2 0)), (3, .int (nI i))] → W p l e room_1 s m #[Value.ref b] below meth c H locs 44 136235 (lw_Z below #[Value.ref b] s) (F0 m 824 ls [])) : W p l e room_1 s m #[Value.ref b] below meth c H locs 44 136235 (lw_Z below #[Value.ref b] s) (F0 m 292 ls []) := by
  obtain ⟨⟨hx, hb, hr, hml, hown, hts0, hXs, hbl, hlocks, hgv⟩, hK, hKm, hN, hdx, hdm, hne, hax, ham, hst1, hst2⟩ := C
  have hown : s.vm.findClass RL = some m.cls := hown
  obtain ⟨hL2, hnv, hle, hfe, hso, hva⟩ := id hO
  have hts : ∀ w ∈ wsL_law, w.before #[Value.ref b] s = true := fun w h => hts0 w (wsL_law_in w h)
  have hbA : ¬ (fun q : Nat => s.heap.size ≤ q) b := Nat.not_le.mpr hbl
  obtain ⟨st, en, sm, os, ot, bf, kp, ov, rc, ru, ss, wy, nw, re, nr, fo, lt, gr, hP, hrow, hrok⟩ := id hX
  refine lv_aload_n hx hb dL_law_292 rfl (lv_at hl 1 rfl) ?_
  refine lv_aload_n hx hb dL_law_293 rfl (lv_at hl 0 rfl) ?_
  refine lv_iload_n hx hb dL_law_294 rfl (lv_at hl 3 rfl) ?_
  refine lv_iconst (v := nI 1) hx hb dL_law_295 (by decide) ?_
  refine ln_iadd hx hb dL_law_296 ?_
  refine an_sld hx hb hXs hbl hbA hS (by omega) (by omega) dL_law_297 ?_
  refine lv_aload_n hx hb dL_law_298 rfl (lv_at hl 0 rfl) ?_
  refine lv_iload_n hx hb dL_law_299 rfl (lv_at hl 3 rfl) ?_
  refine lv_iconst (v := nI 2) hx hb dL_law_300 (by decide) ?_
  refine ln_iadd hx hb dL_law_301 ?_
  refine an_sld hx hb hXs hbl hbA hS (by omega) (by omega) dL_law_302 ?_
  refine ro_call (va_runV (As := [.int (xs (i + 1)), .int (xs (i + 2))]) (rest := []) ⟨hx, hb, hml, hown, hts⟩ (c_X5_sum l (g := gx) (asked := tr) (values := va) (bytes := bt) (starts := st) (ends := en) (L := L) (parts := nI (pn bt L)) (texts := tx) (lengths := le) (feet := fe) (sorts := so) (nxt := nx) (size := nI nv) (sums := sm) (oneSums := os) (otherSums := ot) (byFeet := bf) (kept := kp) (over := ov) (rcount := rc) (rcust := ru) (ssums := ss) (ways := wy) (nextWays := nw) (reached := re) (nextReached := nr) (found := fo) (least := lt) (greatest := gr) (xs (i + 1)) (xs (i + 2)) hL2) (cwV 2 hts gL_law_X5_sum rfl rfl rfl (by decide +kernel) ⟨Nat.le_of_ble_eq_true rfl, Nat.le_of_ble_eq_true rfl⟩) (pre_V pW_bl (va_recv hK hP (ci := 5) (q0 := 0) rfl rfl) (fun U hU hW => pW_of hP hK hN hU hW)) rfl rfl hl.1 rfl (lv_room (Nat.le_of_ble_eq_true rfl)) dL_law_303 ⟨Nat.le_of_ble_eq_true rfl, Nat.le_of_ble_eq_true rfl⟩) ?_
  have hX1 := hX
  have hM1 := hM
  obtain ⟨lf, op, ow, ot, pk, pa, fr, zs, iy, ix, wy, nw, hPm⟩ := id hM1
  refine lv_aload_n hx hb dL_law_306 rfl (lv_at hl 2 rfl) ?_
  refine lv_aload_n hx hb dL_law_307 rfl (lv_at hl 0 rfl) ?_
  refine lv_iload_n hx hb dL_law_308 rfl (lv_at hl 3 rfl) ?_
  refine lv_iconst (v := nI 1) hx hb dL_law_309 (by decide) ?_
  refine ln_iadd hx hb dL_law_310 ?_
  refine an_sld hx hb hXs hbl hbA hS (by omega) (by omega) dL_law_311 ?_
  refine lv_aload_n hx hb dL_law_312 rfl (lv_at hl 0 rfl) ?_
  refine lv_iload_n hx hb dL_law_313 rfl (lv_at hl 3 rfl) ?_
  refine lv_iconst (v := nI 2) hx hb dL_law_314 (by decide) ?_
  refine ln_iadd hx hb dL_law_315 ?_
  refine an_sld hx hb hXs hbl hbA hS (by omega) (by omega) dL_law_316 ?_
  refine lx_i (w := (fun (z : Unit) => wM gm tr va bt (nI L) (nI nv) tx le fe so nx lf op ow ot pk pa fr zs iy ix wy nw)) (va_runV (As := [.int (xs (i + 1)), .int (xs (i + 2))]) (rest := [.int (aSum va bt L ((xs (i + 1))) ((xs (i + 2))))]) ⟨hx, hb, hml, hown, hts⟩ (c_X6_sum l (g := gm) (trace := tr) (value := va) (draft := bt) (L := L) (vocables := nI nv) (letter := tx) (long1 := le) (feet := fe) (sort := so) (order := nx) (left := lf) (opn := op) (own := ow) (other := ot) (pick := pk) (parts := pa) (frm := fr) (size := zs) (isYear := iy) (isNext := ix) (ways := wy) (nextWays := nw) (sz := _) (xs (i + 1)) (xs (i + 2)) hL2 hdm) (cwV 2 hts gL_law_X6_sum rfl rfl rfl (by decide +kernel) ⟨Nat.le_of_ble_eq_true rfl, Nat.le_of_ble_eq_true rfl⟩) (pre_V qW_bl (va_recv hKm hPm (ci := 6) (q0 := 0) rfl rfl) (fun U hU hW => ⟨by rw [hU], pW_of hPm hKm hN hU hW⟩)) rfl rfl hl.1 rfl (lv_room (Nat.le_of_ble_eq_true rfl)) dL_law_317 ⟨Nat.le_of_ble_eq_true rfl, Nat.le_of_ble_eq_true rfl⟩) hS ham (fun r2 z H locs hp hP9 hk hS => ?_)
  try dsimp only at hp
  have hP9 : va_P gm.1 vwCl (wM gm tr va bt (nI L) (nI nv) tx le fe so nx lf op ow ot pk pa fr zs iy ix wy nw) H := hP9
  have hX2 := PX_kept hX1 (fun j hj => hk _ (PX_lt hX1 hj) (aW_no (fun k hk2 h => hne j k hj hk2 h) (PX_lt hX1 hj)))
  subst hp
  have hM2 : PM gm tr va bt L tx le fe so nx nv H := ⟨_, _, _, _, _, _, _, _, _, _, _, _, hP9⟩
  refine lv_icmp_eq (tgt := 824) hx hb dL_law_320 (by decide) (fun _ => ?_) (fun c9 => absurd rfl c9)
  exact kk _ _ ls ⟨_, _, _, _, _, _, _, _, _, _, hX2, hM2, hO⟩ hS hl
set_option maxHeartbeats 1000000 in
set_option maxRecDepth 100000 in
theorem law_vocable {p : Program} {l : Launch} {e : Env} {s : State} {m : MethodId} {below : List Frame} {meth : Method} {c : Code} {b Ls : Nat} {xs : Nat → Int32} {gx gm : GW} (C : lwC p s m meth c b Ls xs gx gm) {i : Nat} (hi : i + 8 ≤ Ls) (hL4 : Ls ≤ 4096) {tr : Int64} {va : Nat → Int32} {bt : Nat → Int32} {L : Nat} {tx : Nat → Int32} {le : Nat → Int32} {fe : Nat → Int32} {so : Nat → Int32} {nx : Nat → Int32} {nv : Nat} {H : Heap} {locs : List Loc} (hX : PX gx tr va bt L tx le fe so nx nv H) (hM : PM gm tr va bt L tx le fe so nx nv H) (hO : okC va L le fe so nv) (hS : va_S (fun q => s.heap.size ≤ q) s.heap H locs) {ls : Array Slot} (hl : lv_has ls 4 [(0, .ref b), (1, .ref (gx.2.2 0)), (2, .ref (gm.2.2 0)), (3, .int (nI i))]) (kk : ∀ (H : Heap) (locs : List Loc) (ls : Array Slot), lwE gx gm H → va_S (fun q => s.heap.size ≤ q) s.heap H locs → lv_has ls 4 [(0, .ref b), (1, .ref (gx.2.2 0)), (2, .ref (gm.2.2 0)), (3, .int (nI i))] → W p l e room_1 s m #[Value.ref b] below meth c H locs 44 136235 (lw_Z below #[Value.ref b] s) (F0 m 824 ls [])) : W p l e room_1 s m #[Value.ref b] below meth c H locs 44 136235 (lw_Z below #[Value.ref b] s) (F0 m 325 ls []) := by
  obtain ⟨⟨hx, hb, hr, hml, hown, hts0, hXs, hbl, hlocks, hgv⟩, hK, hKm, hN, hdx, hdm, hne, hax, ham, hst1, hst2⟩ := C
  have hown : s.vm.findClass RL = some m.cls := hown
  obtain ⟨hL2, hnv, hle, hfe, hso, hva⟩ := id hO
  have hts : ∀ w ∈ wsL_law, w.before #[Value.ref b] s = true := fun w h => hts0 w (wsL_law_in w h)
  have hbA : ¬ (fun q : Nat => s.heap.size ≤ q) b := Nat.not_le.mpr hbl
  obtain ⟨st, en, sm, os, ot, bf, kp, ov, rc, ru, ss, wy, nw, re, nr, fo, lt, gr, hP, hrow, hrok⟩ := id hX
  refine lv_aload_n hx hb dL_law_325 rfl (lv_at hl 1 rfl) ?_
  refine lv_aload_n hx hb dL_law_326 rfl (lv_at hl 0 rfl) ?_
  refine lv_iload_n hx hb dL_law_327 rfl (lv_at hl 3 rfl) ?_
  refine lv_iconst (v := nI 1) hx hb dL_law_328 (by decide) ?_
  refine ln_iadd hx hb dL_law_329 ?_
  refine an_sld hx hb hXs hbl hbA hS (by omega) (by omega) dL_law_330 ?_
  refine lv_aload_n hx hb dL_law_331 rfl (lv_at hl 0 rfl) ?_
  refine lv_iload_n hx hb dL_law_332 rfl (lv_at hl 3 rfl) ?_
  refine lv_iconst (v := nI 2) hx hb dL_law_333 (by decide) ?_
  refine ln_iadd hx hb dL_law_334 ?_
  refine an_sld hx hb hXs hbl hbA hS (by omega) (by omega) dL_law_335 ?_
  refine lx_i (w := (fun (z : (Nat → Int32) × (Nat → Int32) × (Nat → Int32) × (Nat → Int32) × Int32 × Int32 × Int32 × Int32) => wX gx tr va bt st en (z.2.2.2.2.2.1) (z.2.2.2.2.2.2.1) (z.1) (z.2.1) (z.2.2.1) (z.2.2.2.1) nx (z.2.2.2.2.1) sm os ot bf kp (z.2.2.2.2.2.2.2) rc ru ss wy nw re nr fo lt gr)) (va_runV (As := [.int (xs (i + 1)), .int (xs (i + 2))]) (rest := []) ⟨hx, hb, hml, hown, hts⟩ (c_X5_vocable l (g := gx) (asked := tr) (values := va) (bytes := bt) (starts := st) (ends := en) (L := L) (parts := nI (pn bt L)) (texts := tx) (lengths := le) (feet := fe) (sorts := so) (nxt := nx) (nv := nv) (sums := sm) (oneSums := os) (otherSums := ot) (byFeet := bf) (kept := kp) (over := ov) (rcount := rc) (rcust := ru) (ssums := ss) (ways := wy) (nextWays := nw) (reached := re) (nextReached := nr) (found := fo) (least := lt) (greatest := gr) (sz := _) (xs (i + 1)) (xs (i + 2)) hL2 hnv hdx) (cwV 2 hts gL_law_X5_vocable rfl rfl rfl (by decide +kernel) ⟨Nat.le_of_ble_eq_true rfl, Nat.le_of_ble_eq_true rfl⟩) (pre_V qW_bl (va_recv hK hP (ci := 5) (q0 := 0) rfl rfl) (fun U hU hW => ⟨by rw [hU], pW_of hP hK hN hU hW⟩)) rfl rfl hl.1 rfl (lv_room (Nat.le_of_ble_eq_true rfl)) dL_law_336 ⟨Nat.le_of_ble_eq_true rfl, Nat.le_of_ble_eq_true rfl⟩) hS hax (fun r1 z H locs hp hP9 hk hS => ?_)
  obtain ⟨n_texts, n_lengths, n_feet, n_sorts, n_size, n_length, n_parts, n_over⟩ := z
  try dsimp only at hp
  have hP9 : va_P gx.1 vwCl (wX gx tr va bt st en n_length n_parts n_texts n_lengths n_feet n_sorts nx n_size sm os ot bf kp n_over rc ru ss wy nw re nr fo lt gr) H := hP9
  have hM1 : PM gm tr va bt L tx le fe so nx nv H := PM_kept hM (fun j hj => hk _ (PM_lt hM hj) (aW_no (fun k hk2 h => hne k j hk2 hj h.symm) (PM_lt hM hj)))
  obtain ⟨hX1, hr9⟩ := PXn_vocable hP9 hrow hrok hp
  subst hr9
  obtain ⟨lf, op, ow, ot, pk, pa, fr, zs, iy, ix, wy, nw, hPm⟩ := id hM1
  refine lv_aload_n hx hb dL_law_339 rfl (lv_at hl 2 rfl) ?_
  refine lv_aload_n hx hb dL_law_340 rfl (lv_at hl 0 rfl) ?_
  refine lv_iload_n hx hb dL_law_341 rfl (lv_at hl 3 rfl) ?_
  refine lv_iconst (v := nI 1) hx hb dL_law_342 (by decide) ?_
  refine ln_iadd hx hb dL_law_343 ?_
  refine an_sld hx hb hXs hbl hbA hS (by omega) (by omega) dL_law_344 ?_
  refine lv_aload_n hx hb dL_law_345 rfl (lv_at hl 0 rfl) ?_
  refine lv_iload_n hx hb dL_law_346 rfl (lv_at hl 3 rfl) ?_
  refine lv_iconst (v := nI 2) hx hb dL_law_347 (by decide) ?_
  refine ln_iadd hx hb dL_law_348 ?_
  refine an_sld hx hb hXs hbl hbA hS (by omega) (by omega) dL_law_349 ?_
  refine lx_i (w := (fun (z : (Nat → Int32) × (Nat → Int32) × (Nat → Int32) × (Nat → Int32) × Int32 × Int32) => wM gm tr va bt (z.2.2.2.2.2) (z.2.2.2.2.1) (z.1) (z.2.1) (z.2.2.1) (z.2.2.2.1) nx lf op ow ot pk pa fr zs iy ix wy nw)) (va_runV (As := [.int (xs (i + 1)), .int (xs (i + 2))]) (rest := [.int (rVoc bt L nv (xs (i + 1)) (xs (i + 2)))]) ⟨hx, hb, hml, hown, hts⟩ (c_X6_vocable l (g := gm) (trace := tr) (value := va) (draft := bt) (L := L) (nv := nv) (letter := tx) (long1 := le) (feet := fe) (sort := so) (order := nx) (left := lf) (opn := op) (own := ow) (other := ot) (pick := pk) (parts := pa) (frm := fr) (size := zs) (isYear := iy) (isNext := ix) (ways := wy) (nextWays := nw) (sz := _) (xs (i + 1)) (xs (i + 2)) hL2 hnv hdm) (cwV 2 hts gL_law_X6_vocable rfl rfl rfl (by decide +kernel) ⟨Nat.le_of_ble_eq_true rfl, Nat.le_of_ble_eq_true rfl⟩) (pre_V qW_bl (va_recv hKm hPm (ci := 6) (q0 := 0) rfl rfl) (fun U hU hW => ⟨by rw [hU], pW_of hPm hKm hN hU hW⟩)) rfl rfl hl.1 rfl (lv_room (Nat.le_of_ble_eq_true rfl)) dL_law_350 ⟨Nat.le_of_ble_eq_true rfl, Nat.le_of_ble_eq_true rfl⟩) hS ham (fun r2 z H locs hp hP9 hk hS => ?_)
  obtain ⟨n_letter, n_long1, n_feet, n_sort, n_vocables, n_typed⟩ := z
  try dsimp only at hp
  have hP9 : va_P gm.1 vwCl (wM gm tr va bt n_typed n_vocables n_letter n_long1 n_feet n_sort nx lf op ow ot pk pa fr zs iy ix wy nw) H := hP9
  have hX2 := PX_kept hX1 (fun j hj => hk _ (PX_lt hX1 hj) (aW_no (fun k hk2 h => hne j k hj hk2 h) (PX_lt hX1 hj)))
  obtain ⟨hM2, hr9⟩ := PMn_vocable hP9 hp
  subst hr9
  refine lv_icmp_eq (tgt := 824) hx hb dL_law_353 (by decide) (fun _ => ?_) (fun c9 => absurd rfl c9)
  exact kk _ _ ls ⟨_, _, _, _, _, _, _, _, _, _, hX2, hM2, okC_voc hO _ _⟩ hS hl
