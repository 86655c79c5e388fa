set_option maxHeartbeats 1000000 in
set_option maxRecDepth 100000 in
theorem law_loop {p : Program} {l : Launch} {e : Env} {s : State} {m : MethodId} {below : List Frame} {meth : Method} {c : Code} {b Ls : Nat} {xs : Nat → Int32} {gx gm : GW} (C : lwC p s m meth c b Ls xs gx gm) (hL4 : Ls ≤ 4096) : ∀ (n i : Nat), i ≤ Ls → Ls - i < n → ∀ (H : Heap) (locs : List Loc), lwE gx gm H → va_S (fun q => s.heap.size ≤ q) s.heap H locs → ∀ (ls : Array Slot), lv_has ls 4 [(0, .ref b), (1, .ref (gx.2.2 0)), (2, .ref (gm.2.2 0)), (3, .int (nI i))] → W p l e room_1 s m #[Value.ref b] below meth c H locs 44 136235 (lw_Z below #[Value.ref b] s) (F0 m 18 ls []) := by
  obtain ⟨⟨hx, hb, hr, hml, hown, hts0, hXs, hbl, hlocks, hgv⟩, -⟩ := id C
  have hbA : ¬ (fun q : Nat => s.heap.size ≤ q) b := Nat.not_le.mpr hbl
  intro n
  induction n with
  | zero => intro i _ hm; exact absurd hm (Nat.not_lt_zero _)
  | succ n ih =>
    intro i hi hm H locs hE hS ls hl
    refine lv_iload_n hx hb dL_law_18 rfl (lv_at hl 3 rfl) ?_
    refine lv_aload_n hx hb dL_law_19 rfl (lv_at hl 0 rfl) ?_
    refine va_slen hx hb hXs hbl hbA hS dL_law_20 ?_
    refine ln_toi (y := nI Ls) rfl ?_
    refine lv_bipush (v := nI 8) hx hb dL_law_21 (by decide) ?_
    refine lv_isub hx hb dL_law_23 ?_
    have hsub := pk_sub_toInt (a := Ls) (b := 8) (by omega) (by omega)
    refine lv_icmp_gt (tgt := 830) hx hb dL_law_24 (by decide) (fun c9 => ?_) (fun c9 => ?_)
    · refine lv_iconst (v := 1) hx hb dL_law_830 (by decide) ?_
      refine va_forget (fun q hq => hS.2.2 q hq) ?_
      refine W.widen (k := 600000) (n := 7302250) (by decide) (by decide) ?_
      exact lw_ret hx hb hr hlocks dL_law_831
    · have c9 := (not_congr (cv_lt_in (by omega))).mp c9
      have hi8 : i + 8 ≤ Ls := by omega
      have hend : ∀ (H : Heap) (locs : List Loc) (ls : Array Slot), lwE gx gm H → va_S (fun q => s.heap.size ≤ q) s.heap H locs → lv_has ls 4 [(0, .ref b), (1, .ref (gx.2.2 0)), (2, .ref (gm.2.2 0)), (3, .int (nI i))] → W p l e room_1 s m #[Value.ref b] below meth c H locs 44 136235 (lw_Z below #[Value.ref b] s) (F0 m 824 ls []) := by
        intro H locs ls hE hS hl
        refine lv_iinc (v := nI (i + 8)) (lv' := [(3, .int (nI (i + 8))), (0, .ref b), (1, .ref (gx.2.2 0)), (2, .ref (gm.2.2 0))]) hx hb dL_law_824 hl (k := 3) rfl (nI_add _ 8) (by decide) rfl (fun ls hl => ?_)
        refine lv_goto (tgt := 18) hx hb dL_law_827 (by decide) ?_
        exact ih (i + 8) (by omega) (by omega) H locs hE hS ls (lv_sub hl [1, 2, 3, 0] rfl)
      refine lv_aload_n hx hb dL_law_27 rfl (lv_at hl 0 rfl) ?_
      refine lv_iload_n hx hb dL_law_28 rfl (lv_at hl 3 rfl) ?_
      refine an_sld hx hb hXs hbl hbA hS (by omega) (by omega) dL_law_29 ?_
      refine lv_bipush (v := nI 31) hx hb dL_law_30 (by decide) ?_
      refine lv_iand hx hb dL_law_32 ?_
      refine lv_topi (fun sw esw => ?_)
      obtain ⟨tr, va, bt, L, tx, le, fe, so, nx, nv, hX, hM, hO⟩ := id hE
      rcases (show sw.toInt = 0 ∨ sw.toInt = 1 ∨ sw.toInt = 2 ∨ sw.toInt = 3 ∨ sw.toInt = 4 ∨ sw.toInt = 5 ∨ sw.toInt = 6 ∨ sw.toInt = 7 ∨ sw.toInt = 8 ∨ sw.toInt = 9 ∨ sw.toInt = 10 ∨ sw.toInt = 11 ∨ sw.toInt = 12 ∨ sw.toInt = 13 ∨ sw.toInt = 14 ∨ sw.toInt = 15 ∨ sw.toInt = 16 ∨ sw.toInt = 17 ∨ (sw.toInt < 0 ∨ 17 < sw.toInt) by omega) with c_33 | c_33 | c_33 | c_33 | c_33 | c_33 | c_33 | c_33 | c_33 | c_33 | c_33 | c_33 | c_33 | c_33 | c_33 | c_33 | c_33 | c_33 | c_33
      · refine lv_tableIn (tgt := 120) (off := 87) hx hb dL_law_33 (by omega) (by omega) (by rw [c_33]; rfl) (by decide) ?_
        exact law_value C hi8 hL4 hX hM hO hS hl hend
      · refine lv_tableIn (tgt := 163) (off := 130) hx hb dL_law_33 (by omega) (by omega) (by rw [c_33]; rfl) (by decide) ?_
        exact law_worth C hi8 hL4 hX hM hO hS hl hend
      · refine lv_tableIn (tgt := 216) (off := 183) hx hb dL_law_33 (by omega) (by omega) (by rw [c_33]; rfl) (by decide) ?_
        exact law_type C hi8 hL4 hX hM hO hS hl hend
      · refine lv_tableIn (tgt := 279) (off := 246) hx hb dL_law_33 (by omega) (by omega) (by rw [c_33]; rfl) (by decide) ?_
        exact law_clear C hi8 hL4 hX hM hO hS hl hend
      · refine lv_tableIn (tgt := 292) (off := 259) hx hb dL_law_33 (by omega) (by omega) (by rw [c_33]; rfl) (by decide) ?_
        exact law_sum C hi8 hL4 hX hM hO hS hl hend
      · refine lv_tableIn (tgt := 325) (off := 292) hx hb dL_law_33 (by omega) (by omega) (by rw [c_33]; rfl) (by decide) ?_
        exact law_vocable C hi8 hL4 hX hM hO hS hl hend
      · refine lv_tableIn (tgt := 358) (off := 325) hx hb dL_law_33 (by omega) (by omega) (by rw [c_33]; rfl) (by decide) ?_
        exact law_about C hi8 hL4 hX hM hO hS hl hend
      · refine lv_tableIn (tgt := 391) (off := 358) hx hb dL_law_33 (by omega) (by omega) (by rw [c_33]; rfl) (by decide) ?_
        exact law_order C hi8 hL4 hX hM hO hS hl hend
      · refine lv_tableIn (tgt := 424) (off := 391) hx hb dL_law_33 (by omega) (by omega) (by rw [c_33]; rfl) (by decide) ?_
        exact law_many C hi8 hL4 hX hM hO hS hl hend
      · refine lv_tableIn (tgt := 448) (off := 415) hx hb dL_law_33 (by omega) (by omega) (by rw [c_33]; rfl) (by decide) ?_
        exact law_lines C hi8 hL4 hX hM hO hS hl hend
      · refine lv_tableIn (tgt := 502) (off := 469) hx hb dL_law_33 (by omega) (by omega) (by rw [c_33]; rfl) (by decide) ?_
        exact law_line C hi8 hL4 hX hM hO hS hl hend
      · refine lv_tableIn (tgt := 609) (off := 576) hx hb dL_law_33 (by omega) (by omega) (by rw [c_33]; rfl) (by decide) ?_
        exact law_doubles C hi8 hL4 hX hM hO hS hl hend
      · refine lv_tableIn (tgt := 685) (off := 652) hx hb dL_law_33 (by omega) (by omega) (by rw [c_33]; rfl) (by decide) ?_
        exact law_fit C hi8 hL4 hX hM hO hS hl hend
      · refine lv_tableIn (tgt := 708) (off := 675) hx hb dL_law_33 (by omega) (by omega) (by rw [c_33]; rfl) (by decide) ?_
        exact law_readings C hi8 hL4 hX hM hO hS hl hend
      · refine lv_tableIn (tgt := 721) (off := 688) hx hb dL_law_33 (by omega) (by omega) (by rw [c_33]; rfl) (by decide) ?_
        exact law_years C hi8 hL4 hX hM hO hS hl hend
      · refine lv_tableIn (tgt := 764) (off := 731) hx hb dL_law_33 (by omega) (by omega) (by rw [c_33]; rfl) (by decide) ?_
        exact law_borne C hi8 hL4 hX hM hO hS hl hend
      · refine lv_tableIn (tgt := 787) (off := 754) hx hb dL_law_33 (by omega) (by omega) (by rw [c_33]; rfl) (by decide) ?_
        exact law_count C hi8 hL4 hX hM hO hS hl hend
      · refine lv_tableIn (tgt := 810) (off := 777) hx hb dL_law_33 (by omega) (by omega) (by rw [c_33]; rfl) (by decide) ?_
        exact law_trace C hi8 hL4 hX hM hO hS hl hend
      · refine lv_tableOut (tgt := 824) hx hb dL_law_33 (by omega) (by decide) ?_
        exact hend H locs ls hE hS hl
