theorem iw_X6_readings_X6 : ∀ w ∈ u_ws RX6 TX6 23, w ∈ wsX6_readings := by decide +kernel
theorem fl_X6_readings_25 : Cond.fieldLink RX6 25 (TX6 9).1 (TX6 9).2.1 (TX6 9).2.2.1 ∈ wsX6_readings := by decide +kernel
theorem fl_X6_readings_61 : Cond.fieldLink RX6 61 (TX6 21).1 (TX6 21).2.1 (TX6 21).2.2.1 ∈ wsX6_readings := by decide +kernel
theorem fl_X6_readings_64 : Cond.fieldLink RX6 64 (TX6 22).1 (TX6 22).2.1 (TX6 22).2.2.1 ∈ wsX6_readings := by decide +kernel
theorem fl_X6_readings_67 : Cond.fieldLink RX6 67 (TX6 0).1 (TX6 0).2.1 (TX6 0).2.2.1 ∈ wsX6_readings := by decide +kernel
theorem fl_X6_readings_124 : Cond.fieldLink RX6 124 (TX6 5).1 (TX6 5).2.1 (TX6 5).2.2.1 ∈ wsX6_readings := by decide +kernel
theorem fl_X6_readings_154 : Cond.fieldLink RX6 154 (TX6 16).1 (TX6 16).2.1 (TX6 16).2.2.1 ∈ wsX6_readings := by decide +kernel
set_option maxHeartbeats 200000 in
set_option maxRecDepth 100000 in
theorem c_X6_readings (l : Launch) {g : GW} {trace : Int64} {value : Nat → Int32} {draft : Nat → Int32} {L : Nat} {nv : Nat} {letter : Nat → Int32} {long1 : Nat → Int32} {feet : Nat → Int32} {sort : Nat → Int32} {order : Nat → Int32} {left : Nat → Int64} {opn : Nat → Int64} {own : Nat → Int32} {other : Nat → Int32} {pick : Nat → Int32} {parts : Int32} {frm : Nat → Int32} {size : Nat → Int32} {isYear : Nat → Int32} {isNext : Nat → Int32} {ways : Nat → Int64} {nextWays : Nat → Int64} {sz : Nat} (hnv : nv ≤ 10) (hL2 : L ≤ 40) (hle : okV long1 nv 1 8) (hso : okV sort nv 0 2) (hd : dW 19 g.2.2) : Met l yX6_readings wsX6_readings ({ frames := 1, cells := 0, slots := 0, locals := 25 }) (va_Pc ([.ref (g.2.2 0)]) (qW g (wM g trace value draft (nI (L)) (nI (nv)) letter long1 feet sort order left opn own other pick parts frm size isYear isNext ways nextWays) sz)) (va_Qi (fun (r : Int32) (z : (Nat → Int32) × (Nat → Int32) × Int32 × (Nat → Int64) × (Nat → Int64)) => r = aRead draft letter long1 sort order L nv) (fun (z : (Nat → Int32) × (Nat → Int32) × Int32 × (Nat → Int64) × (Nat → Int64)) (t : State) => va_P g.1 vwCl (wM g trace value draft (nI (L)) (nI (nv)) letter long1 feet sort order left opn own other pick (z.2.2.1) (z.1) (z.2.1) isYear isNext (z.2.2.2.1) (z.2.2.2.2)) t.heap) (aW 19 g.2.2 sz)) 0 0 (aW 19 g.2.2 sz) := by
  refine Met.ofW (cc := cX6_readings) (maxL := 4) (ret := (some .int)) (by decide) rfl ?_
  intro p e s m args below meth c s₁ B hml hv
  obtain ⟨rfl, hsz9, hP, hK, hN⟩ := hv
  subst hsz9
  have hx := B.exec
  have hb := B.bytes
  have hr := B.returns
  have hts := atoms_spec (ws := wsX6_readings) B.pre
  have hown : s.vm.findClass RX6 = some m.cls := findClass_of_methodNamed B.named
  have hlocks := B.notSynchronized
  have hS : va_S (aW 19 g.2.2 s.heap.size) s.heap s.heap [] := va_S.rf
  have hl := lv_entry ([.ref (g.2.2 0)]) (n := 4) (Nat.le_of_ble_eq_true rfl)
  rw [lg_entry_eq]
  generalize (lg_sl ([.ref (g.2.2 0)]) ++ List.replicate (4 - (lg_sl ([.ref (g.2.2 0)])).length) Slot.unset).toArray = ls at hl ⊢
  have hl : lv_has ls 4 [(0, .ref (g.2.2 0))] := hl
  have hp20 := pn_room draft L
  have hrb := rdw_le draft letter long1 sort order L nv
  refine lv_aload_n hx hb dX6_readings_0 rfl (lv_at hl 0 rfl) ?_
  refine lv_iconst (v := (nI (0))) hx hb dX6_readings_1 (by decide) ?_
  refine an_put (ci := 6) (v := .int (nI (0))) (ty := .int) (C := RX6) (T := TX6) (N := 23) (ws' := (wM g trace value draft (nI (L)) (nI (nv)) letter long1 feet sort order left opn own other pick parts frm size isYear isNext ways nextWays)) hx hb hts iw_X6_readings_X6 tyX6 tyX6_ok nmX6 hown hK hP (wM_D hd) hS 0 rfl rfl 0 (by decide) (hts _ fl_X6_readings_67) rfl (by decide +kernel) (rfl) (rfl) (Nat.le_of_ble_eq_true rfl) rfl dX6_readings_2 (fun H locs hP hS => ?_)
  refine lv_aload_n hx hb dX6_readings_5 rfl (lv_at hl 0 rfl) ?_
  refine wr_callv (w := (fun (z : (Nat → Int32) × (Nat → Int32) × Int32) => (wM g trace value draft (nI (L)) (nI (nv)) letter long1 feet sort order left opn own other pick (z.2.2) (z.1) (z.2.1) isYear isNext ways nextWays))) (va_runV (As := []) (rest := []) ⟨hx, hb, hml, hown, hts⟩ (c_X6_parts l (g := g) (trace := trace) (value := value) (draft := draft) (L := L) (vocables := nI (nv)) (letter := letter) (long1 := long1) (feet := feet) (sort := sort) (order := order) (left := left) (opn := opn) (own := own) (other := other) (pick := pick) (parts := parts) (frm := frm) (size := size) (isYear := isYear) (isNext := isNext) (ways := ways) (nextWays := nextWays) (sz := _)  hL2 hd) (cwV 0 hts gX6_readings_X6_parts rfl rfl rfl (by decide +kernel) ⟨Nat.le_of_ble_eq_true rfl, Nat.le_of_ble_eq_true rfl⟩) (pre_V qW_bl (va_recv hK hP (ci := 6) (q0 := 0) rfl rfl) (fun U hU hW => ⟨by rw [hU], pW_of hP hK hN hU hW⟩)) rfl rfl hl.1 rfl (lv_room (Nat.le_of_ble_eq_true rfl)) dX6_readings_6 ⟨Nat.zero_le _, Nat.zero_le _⟩) hS (fun z6 H locs hp6 hP hS => ?_)
  obtain ⟨frm6, size6, parts6⟩ := z6
  try dsimp only at hp6
  have hP : va_P g.1 vwCl (wM g trace value draft (nI (L)) (nI (nv)) letter long1 feet sort order left opn own other pick parts6 frm6 size6 isYear isNext ways nextWays) H := hP
  obtain ⟨hq1, hq2⟩ := hp6
  subst hq1
  refine lv_aload_n hx hb dX6_readings_9 rfl (lv_at hl 0 rfl) ?_
  refine an_get (ci := 6) (v := .int (nI (pn draft L))) (C := RX6) (T := TX6) (N := 23) hx hb hts iw_X6_readings_X6 hown hK hP 0 rfl rfl 16 (by decide) (hts _ fl_X6_readings_154) rfl dX6_readings_10 ?_
  refine lv_if_ne (tgt := 19) hx hb dX6_readings_13 (by decide) (fun c_13 => ?_) (fun c_13 => ?_)
  · have c_13 := (not_congr (cz_eq_n (by omega))).mp c_13
    refine lv_iconst (v := (nI (0))) hx hb dX6_readings_19 (by decide) ?_
    refine lv_istore_n (lv' := [(1, .int (nI (0))), (0, .ref (g.2.2 0))]) hx hb dX6_readings_20 rfl hl (by decide) rfl (fun ls hl => ?_)
    have lp_21 : ∀ (n : Nat) (k : Nat) (u : Nat → Int64), (k ≤ 4) → (∀ s, s < k → u s = lN (rdw draft letter long1 sort order L nv 0 s)) → 4 - k < n → ∀ (H : Heap) (locs : List Loc), va_P g.1 vwCl (wM g trace value draft (nI (L)) (nI (nv)) letter long1 feet sort order left opn own other pick (nI (pn draft L)) frm6 size6 isYear isNext u nextWays) H → va_S (aW 19 g.2.2 s.heap.size) s.heap H locs → ∀ (ls : Array Slot), lv_has ls 4 [(0, .ref (g.2.2 0)), (1, .int (nI (k)))] → W p l e (headSpec wsX6_readings ({ frames := 1, cells := 0, slots := 0, locals := 25 })).room s m (([.ref (g.2.2 0)] : List Value).toArray) below meth c H locs 0 0 (MQ below (va_Qi (fun (r : Int32) (z : (Nat → Int32) × (Nat → Int32) × Int32 × (Nat → Int64) × (Nat → Int64)) => r = aRead draft letter long1 sort order L nv) (fun (z : (Nat → Int32) × (Nat → Int32) × Int32 × (Nat → Int64) × (Nat → Int64)) (t : State) => va_P g.1 vwCl (wM g trace value draft (nI (L)) (nI (nv)) letter long1 feet sort order left opn own other pick (z.2.2.1) (z.1) (z.2.1) isYear isNext (z.2.2.2.1) (z.2.2.2.2)) t.heap) (aW 19 g.2.2 s.heap.size)) (([.ref (g.2.2 0)] : List Value).toArray) s 0 0 (aW 19 g.2.2 s.heap.size)) (F0 m 21 ls []) := by
      intro n
      induction n with
      | zero => intro k u hk hu hm; exact absurd hm (Nat.not_lt_zero _)
      | succ n ih_21 =>
        intro k u hk hu hm_21 H locs hP hS ls hl
        refine lv_iload_n hx hb dX6_readings_21 rfl (lv_at hl 1 rfl) ?_
        refine lv_iconst (v := (nI (4))) hx hb dX6_readings_22 (by decide) ?_
        refine lv_icmp_ge (tgt := 48) hx hb dX6_readings_23 (by decide) (fun c_23 => ?_) (fun c_23 => ?_)
        · have c_23 := (cv_le_nn (by omega) (by omega)).mp c_23
          refine lv_iconst (v := (nI (0))) hx hb dX6_readings_48 (by decide) ?_
          refine lv_istore_n (lv' := [(1, .int (nI (0))), (0, .ref (g.2.2 0))]) hx hb dX6_readings_49 rfl hl (by decide) rfl (fun ls hl => ?_)
          have lp_50 : ∀ (n : Nat) (i : Nat) (u3 : Nat → Int64) (x3 : Nat → Int64), (i ≤ pn draft L) → (∀ s, s < 4 → u3 s = lN (rdw draft letter long1 sort order L nv i s)) → pn draft L - i < n → ∀ (H : Heap) (locs : List Loc), va_P g.1 vwCl (wM g trace value draft (nI (L)) (nI (nv)) letter long1 feet sort order left opn own other pick (nI (pn draft L)) frm6 size6 isYear isNext u3 x3) H → va_S (aW 19 g.2.2 s.heap.size) s.heap H locs → ∀ (ls : Array Slot), lv_has ls 4 [(0, .ref (g.2.2 0)), (1, .int (nI (i)))] → W p l e (headSpec wsX6_readings ({ frames := 1, cells := 0, slots := 0, locals := 25 })).room s m (([.ref (g.2.2 0)] : List Value).toArray) below meth c H locs 0 0 (MQ below (va_Qi (fun (r : Int32) (z : (Nat → Int32) × (Nat → Int32) × Int32 × (Nat → Int64) × (Nat → Int64)) => r = aRead draft letter long1 sort order L nv) (fun (z : (Nat → Int32) × (Nat → Int32) × Int32 × (Nat → Int64) × (Nat → Int64)) (t : State) => va_P g.1 vwCl (wM g trace value draft (nI (L)) (nI (nv)) letter long1 feet sort order left opn own other pick (z.2.2.1) (z.1) (z.2.1) isYear isNext (z.2.2.2.1) (z.2.2.2.2)) t.heap) (aW 19 g.2.2 s.heap.size)) (([.ref (g.2.2 0)] : List Value).toArray) s 0 0 (aW 19 g.2.2 s.heap.size)) (F0 m 50 ls []) := by
            intro n
            induction n with
            | zero => intro i u3 x3 hi hu3 hm; exact absurd hm (Nat.not_lt_zero _)
            | succ n ih_50 =>
              intro i u3 x3 hi hu3 hm_50 H locs hP hS ls hl
              refine lv_iload_n hx hb dX6_readings_50 rfl (lv_at hl 1 rfl) ?_
              refine lv_aload_n hx hb dX6_readings_51 rfl (lv_at hl 0 rfl) ?_
              refine an_get (ci := 6) (v := .int (nI (pn draft L))) (C := RX6) (T := TX6) (N := 23) hx hb hts iw_X6_readings_X6 hown hK hP 0 rfl rfl 16 (by decide) (hts _ fl_X6_readings_154) rfl dX6_readings_52 ?_
              refine lv_icmp_ge (tgt := 199) hx hb dX6_readings_55 (by decide) (fun c_55 => ?_) (fun c_55 => ?_)
              · have c_55 := (cv_le_nn (by omega) (by omega)).mp c_55
                have e199 : i = pn draft L := by omega
                have h0 := hrb i 0
                have h1 := hrb i 1
                have h2 := hrb i 2
                have h3 := rdw_3 (t := draft) (tx := letter) (le := long1) (nx := order) (L := L) hso (show 1 ≤ i by omega)
                have hsm : sm4 (rdw draft letter long1 sort order L nv i) 4 = rdw draft letter long1 sort order L nv i 0 + rdw draft letter long1 sort order L nv i 1 + rdw draft letter long1 sort order L nv i 2 := by show 0 + rdw draft letter long1 sort order L nv i 0 + rdw draft letter long1 sort order L nv i 1 + rdw draft letter long1 sort order L nv i 2 + rdw draft letter long1 sort order L nv i 3 = _; rw [h3]; omega
                refine lv_aload_n hx hb dX6_readings_199 rfl (lv_at hl 0 rfl) ?_
                refine an_get (ci := 6) (v := .ref (g.2.2 17)) (C := RX6) (T := TX6) (N := 23) hx hb hts iw_X6_readings_X6 hown hK hP 0 rfl rfl 21 (by decide) (hts _ fl_X6_readings_61) rfl dX6_readings_200 ?_
                refine lv_iconst (v := (nI (0))) hx hb dX6_readings_203 (by decide) ?_
                refine an_lald (f := u3) hx hb hK hP 17 1 rfl rfl (by decide) (by omega) dX6_readings_204 ?_
                refine ln_tol (y := (lN (rdw draft letter long1 sort order L nv i 0))) (hu3 0 (by omega)) ?_
                refine lv_aload_n hx hb dX6_readings_205 rfl (lv_at hl 0 rfl) ?_
                refine an_get (ci := 6) (v := .ref (g.2.2 17)) (C := RX6) (T := TX6) (N := 23) hx hb hts iw_X6_readings_X6 hown hK hP 0 rfl rfl 21 (by decide) (hts _ fl_X6_readings_61) rfl dX6_readings_206 ?_
                refine lv_iconst (v := (nI (1))) hx hb dX6_readings_209 (by decide) ?_
                refine an_lald (f := u3) hx hb hK hP 17 1 rfl rfl (by decide) (by omega) dX6_readings_210 ?_
                refine ln_tol (y := (lN (rdw draft letter long1 sort order L nv i 1))) (hu3 1 (by omega)) ?_
                refine ln_ladd hx hb dX6_readings_211 ?_
                refine lv_aload_n hx hb dX6_readings_212 rfl (lv_at hl 0 rfl) ?_
                refine an_get (ci := 6) (v := .ref (g.2.2 17)) (C := RX6) (T := TX6) (N := 23) hx hb hts iw_X6_readings_X6 hown hK hP 0 rfl rfl 21 (by decide) (hts _ fl_X6_readings_61) rfl dX6_readings_213 ?_
                refine lv_iconst (v := (nI (2))) hx hb dX6_readings_216 (by decide) ?_
                refine an_lald (f := u3) hx hb hK hP 17 1 rfl rfl (by decide) (by omega) dX6_readings_217 ?_
                refine ln_tol (y := (lN (rdw draft letter long1 sort order L nv i 2))) (hu3 2 (by omega)) ?_
                refine ln_ladd hx hb dX6_readings_218 ?_
                refine lv_lstore_n (lv' := [(1, .long (lN (((rdw draft letter long1 sort order L nv i 0) + (rdw draft letter long1 sort order L nv i 1)) + (rdw draft letter long1 sort order L nv i 2)))), (0, .ref (g.2.2 0))]) hx hb dX6_readings_219 rfl hl (by decide) rfl (fun ls hl => ?_)
                refine lv_lload_n hx hb dX6_readings_220 rfl (lv_at hl 0 rfl) ?_
                refine lv_ldc2 hx hb hown (hts (.constantLong RX6 162 (2000000000)) (by decide +kernel)) dX6_readings_221 ?_
                refine ln_tol (y := lN 2000000000) (by decide) ?_
                refine W.lcmp hx hb dX6_readings_224 ?_
                refine lv_if_le (tgt := 233) hx hb dX6_readings_225 (by decide) (fun c_225 => ?_) (fun c_225 => ?_)
                · have c_225 := (cx_le (by omega) (by omega)).1 c_225
                  refine lv_lload_n hx hb dX6_readings_233 rfl (lv_at hl 0 rfl) ?_
                  refine lv_l2i (v := nI (((rdw draft letter long1 sort order L nv i 0) + (rdw draft letter long1 sort order L nv i 1)) + (rdw draft letter long1 sort order L nv i 2))) hx hb dX6_readings_234 (lN_i _) ?_
                  exact wr_iret (frm6, size6, nI (pn draft L), u3, x3) hx hb hr hlocks (by unfold aRead; rw [if_neg (by omega), ← e199, hsm, Nat.min_eq_left (by omega)]) (fun t ht => show va_P g.1 vwCl (wM g trace value draft (nI (L)) (nI (nv)) letter long1 feet sort order left opn own other pick (nI (pn draft L)) frm6 size6 isYear isNext u3 x3) t.heap by rw [ht]; exact hP) hS dX6_readings_235
                · have c_225 := (cx_le (by omega) (by omega)).2 c_225
                  refine lv_ldc hx hb hown (hts (.constant RX6 164 (2000000000)) (by decide +kernel)) dX6_readings_228 ?_
                  refine ln_toi (y := nI 2000000000) (by decide) ?_
                  refine lv_goto (tgt := 235) hx hb dX6_readings_230 (by decide) ?_
                  exact wr_iret (frm6, size6, nI (pn draft L), u3, x3) hx hb hr hlocks (by unfold aRead; rw [if_neg (by omega), ← e199, hsm, Nat.min_eq_right (by omega)]) (fun t ht => show va_P g.1 vwCl (wM g trace value draft (nI (L)) (nI (nv)) letter long1 feet sort order left opn own other pick (nI (pn draft L)) frm6 size6 isYear isNext u3 x3) t.heap by rw [ht]; exact hP) hS dX6_readings_235
              · have c_55 := (not_congr (cv_le_nn (by omega) (by omega))).mp c_55
                refine lv_iconst (v := (nI (0))) hx hb dX6_readings_58 (by decide) ?_
                refine lv_istore_n (lv' := [(2, .int (nI (0))), (0, .ref (g.2.2 0)), (1, .int (nI (i)))]) hx hb dX6_readings_59 rfl hl (by decide) rfl (fun ls hl => ?_)
                have lp_60 : ∀ (n : Nat) (k2 : Nat) (x4 : Nat → Int64), (k2 ≤ 4) → (∀ s, s < k2 → x4 s = lN 0) → 4 - k2 < n → ∀ (H : Heap) (locs : List Loc), va_P g.1 vwCl (wM g trace value draft (nI (L)) (nI (nv)) letter long1 feet sort order left opn own other pick (nI (pn draft L)) frm6 size6 isYear isNext u3 x4) H → va_S (aW 19 g.2.2 s.heap.size) s.heap H locs → ∀ (ls : Array Slot), lv_has ls 4 [(0, .ref (g.2.2 0)), (1, .int (nI (i))), (2, .int (nI (k2)))] → W p l e (headSpec wsX6_readings ({ frames := 1, cells := 0, slots := 0, locals := 25 })).room s m (([.ref (g.2.2 0)] : List Value).toArray) below meth c H locs 0 0 (MQ below (va_Qi (fun (r : Int32) (z : (Nat → Int32) × (Nat → Int32) × Int32 × (Nat → Int64) × (Nat → Int64)) => r = aRead draft letter long1 sort order L nv) (fun (z : (Nat → Int32) × (Nat → Int32) × Int32 × (Nat → Int64) × (Nat → Int64)) (t : State) => va_P g.1 vwCl (wM g trace value draft (nI (L)) (nI (nv)) letter long1 feet sort order left opn own other pick (z.2.2.1) (z.1) (z.2.1) isYear isNext (z.2.2.2.1) (z.2.2.2.2)) t.heap) (aW 19 g.2.2 s.heap.size)) (([.ref (g.2.2 0)] : List Value).toArray) s 0 0 (aW 19 g.2.2 s.heap.size)) (F0 m 60 ls []) := by
                  intro n
                  induction n with
                  | zero => intro k2 x4 hk2 hx4 hm; exact absurd hm (Nat.not_lt_zero _)
                  | succ n ih_60 =>
                    intro k2 x4 hk2 hx4 hm_60 H locs hP hS ls hl
                    refine lv_iload_n hx hb dX6_readings_60 rfl (lv_at hl 2 rfl) ?_
                    refine lv_iconst (v := (nI (4))) hx hb dX6_readings_61 (by decide) ?_
                    refine lv_icmp_ge (tgt := 78) hx hb dX6_readings_62 (by decide) (fun c_62 => ?_) (fun c_62 => ?_)
                    · have c_62 := (cv_le_nn (by omega) (by omega)).mp c_62
                      refine lv_iconst (v := (nI (0))) hx hb dX6_readings_78 (by decide) ?_
                      refine lv_istore_n (lv' := [(2, .int (nI (0))), (0, .ref (g.2.2 0)), (1, .int (nI (i)))]) hx hb dX6_readings_79 rfl hl (by decide) rfl (fun ls hl => ?_)
                      have lp_80 : ∀ (n : Nat) (v : Nat) (y8 : Nat → Int64), (v ≤ nv) → (∀ s, s < 4 → y8 s = lN (rsq draft letter long1 sort order L i (rdw draft letter long1 sort order L nv i) s v)) → nv - v < n → ∀ (H : Heap) (locs : List Loc), va_P g.1 vwCl (wM g trace value draft (nI (L)) (nI (nv)) letter long1 feet sort order left opn own other pick (nI (pn draft L)) frm6 size6 isYear isNext u3 y8) H → va_S (aW 19 g.2.2 s.heap.size) s.heap H locs → ∀ (ls : Array Slot), lv_has ls 4 [(0, .ref (g.2.2 0)), (1, .int (nI (i))), (2, .int (nI (v)))] → W p l e (headSpec wsX6_readings ({ frames := 1, cells := 0, slots := 0, locals := 25 })).room s m (([.ref (g.2.2 0)] : List Value).toArray) below meth c H locs 0 0 (MQ below (va_Qi (fun (r : Int32) (z : (Nat → Int32) × (Nat → Int32) × Int32 × (Nat → Int64) × (Nat → Int64)) => r = aRead draft letter long1 sort order L nv) (fun (z : (Nat → Int32) × (Nat → Int32) × Int32 × (Nat → Int64) × (Nat → Int64)) (t : State) => va_P g.1 vwCl (wM g trace value draft (nI (L)) (nI (nv)) letter long1 feet sort order left opn own other pick (z.2.2.1) (z.1) (z.2.1) isYear isNext (z.2.2.2.1) (z.2.2.2.2)) t.heap) (aW 19 g.2.2 s.heap.size)) (([.ref (g.2.2 0)] : List Value).toArray) s 0 0 (aW 19 g.2.2 s.heap.size)) (F0 m 80 ls []) := by
                        intro n
                        induction n with
                        | zero => intro v y8 hv hy6 hm; exact absurd hm (Nat.not_lt_zero _)
                        | succ n ih_80 =>
                          intro v y8 hv hy6 hm_80 H locs hP hS ls hl
                          refine lv_iload_n hx hb dX6_readings_80 rfl (lv_at hl 2 rfl) ?_
                          refine lv_aload_n hx hb dX6_readings_81 rfl (lv_at hl 0 rfl) ?_
                          refine an_get (ci := 6) (v := .int (nI (nv))) (C := RX6) (T := TX6) (N := 23) hx hb hts iw_X6_readings_X6 hown hK hP 0 rfl rfl 5 (by decide) (hts _ fl_X6_readings_124) rfl dX6_readings_82 ?_
                          refine lv_icmp_ge (tgt := 149) hx hb dX6_readings_85 (by decide) (fun c_85 => ?_) (fun c_85 => ?_)
                          · have c_85 := (cv_le_nn (by omega) (by omega)).mp c_85
                            have e149 : v = nv := by omega
                            have hrl := fun s => rsq_le (t := draft) (tx := letter) (le := long1) (so := sort) (nx := order) (L := L) (i := i) (s := s) (hrb i) nv
                            refine lv_iconst (v := (nI (0))) hx hb dX6_readings_149 (by decide) ?_
                            refine lv_istore_n (lv' := [(2, .int (nI (0))), (0, .ref (g.2.2 0)), (1, .int (nI (i)))]) hx hb dX6_readings_150 rfl hl (by decide) rfl (fun ls hl => ?_)
                            have lp_151 : ∀ (n : Nat) (k5 : Nat) (u4 : Nat → Int64), (k5 ≤ 4) → (∀ s, s < k5 → u4 s = lN (rdw draft letter long1 sort order L nv (i + 1) s)) → 4 - k5 < n → ∀ (H : Heap) (locs : List Loc), va_P g.1 vwCl (wM g trace value draft (nI (L)) (nI (nv)) letter long1 feet sort order left opn own other pick (nI (pn draft L)) frm6 size6 isYear isNext u4 y8) H → va_S (aW 19 g.2.2 s.heap.size) s.heap H locs → ∀ (ls : Array Slot), lv_has ls 4 [(0, .ref (g.2.2 0)), (1, .int (nI (i))), (2, .int (nI (k5)))] → W p l e (headSpec wsX6_readings ({ frames := 1, cells := 0, slots := 0, locals := 25 })).room s m (([.ref (g.2.2 0)] : List Value).toArray) below meth c H locs 0 0 (MQ below (va_Qi (fun (r : Int32) (z : (Nat → Int32) × (Nat → Int32) × Int32 × (Nat → Int64) × (Nat → Int64)) => r = aRead draft letter long1 sort order L nv) (fun (z : (Nat → Int32) × (Nat → Int32) × Int32 × (Nat → Int64) × (Nat → Int64)) (t : State) => va_P g.1 vwCl (wM g trace value draft (nI (L)) (nI (nv)) letter long1 feet sort order left opn own other pick (z.2.2.1) (z.1) (z.2.1) isYear isNext (z.2.2.2.1) (z.2.2.2.2)) t.heap) (aW 19 g.2.2 s.heap.size)) (([.ref (g.2.2 0)] : List Value).toArray) s 0 0 (aW 19 g.2.2 s.heap.size)) (F0 m 151 ls []) := by
                              intro n
                              induction n with
                              | zero => intro k5 u4 hk5 hu4 hm; exact absurd hm (Nat.not_lt_zero _)
                              | succ n ih_151 =>
                                intro k5 u4 hk5 hu4 hm_151 H locs hP hS ls hl
                                refine lv_iload_n hx hb dX6_readings_151 rfl (lv_at hl 2 rfl) ?_
                                refine lv_iconst (v := (nI (4))) hx hb dX6_readings_152 (by decide) ?_
                                refine lv_icmp_ge (tgt := 193) hx hb dX6_readings_153 (by decide) (fun c_153 => ?_) (fun c_153 => ?_)
                                · have c_153 := (cv_le_nn (by omega) (by omega)).mp c_153
                                  refine lv_iinc (v := (nI (i + 1))) (lv' := [(1, .int (nI (i + 1))), (0, .ref (g.2.2 0)), (2, .int (nI (k5)))]) hx hb dX6_readings_193 hl (k := 1) rfl (nI_add _ 1) (by decide) rfl (fun ls hl => ?_)
                                  refine lv_goto (tgt := 50) hx hb dX6_readings_196 (by decide) ?_
                                  exact ih_50 (i + 1) u4 y8 (by omega) (fun s h => hu4 s (by omega)) (by omega) _ _ hP hS ls (lv_sub hl [1, 0] rfl)
                                · have c_153 := (not_congr (cv_le_nn (by omega) (by omega))).mp c_153
                                  refine lv_aload_n hx hb dX6_readings_156 rfl (lv_at hl 0 rfl) ?_
                                  refine an_get (ci := 6) (v := .ref (g.2.2 17)) (C := RX6) (T := TX6) (N := 23) hx hb hts iw_X6_readings_X6 hown hK hP 0 rfl rfl 21 (by decide) (hts _ fl_X6_readings_61) rfl dX6_readings_157 ?_
                                  refine lv_iload_n hx hb dX6_readings_160 rfl (lv_at hl 2 rfl) ?_
                                  refine lv_aload_n hx hb dX6_readings_161 rfl (lv_at hl 0 rfl) ?_
                                  refine an_get (ci := 6) (v := .ref (g.2.2 18)) (C := RX6) (T := TX6) (N := 23) hx hb hts iw_X6_readings_X6 hown hK hP 0 rfl rfl 22 (by decide) (hts _ fl_X6_readings_64) rfl dX6_readings_162 ?_
                                  refine lv_iload_n hx hb dX6_readings_165 rfl (lv_at hl 2 rfl) ?_
                                  have hrk := hrl k5
                                  refine an_lald (f := y8) hx hb hK hP 18 1 rfl rfl (by decide) (by omega) dX6_readings_166 ?_
                                  refine ln_tol (y := (lN (rsq draft letter long1 sort order L i (rdw draft letter long1 sort order L nv i) k5 nv))) (by rw [hy6 k5 (by omega), e149]) ?_
                                  refine lv_ldc2 hx hb hown (hts (.constantLong RX6 162 (2000000000)) (by decide +kernel)) dX6_readings_167 ?_
                                  refine ln_tol (y := lN 2000000000) (by decide) ?_
                                  refine W.lcmp hx hb dX6_readings_170 ?_
                                  refine lv_if_le (tgt := 180) hx hb dX6_readings_171 (by decide) (fun c_171 => ?_) (fun c_171 => ?_)
                                  · have c_171 := (cx_le (by omega) (by omega)).1 c_171
                                    refine lv_aload_n hx hb dX6_readings_180 rfl (lv_at hl 0 rfl) ?_
                                    refine an_get (ci := 6) (v := .ref (g.2.2 18)) (C := RX6) (T := TX6) (N := 23) hx hb hts iw_X6_readings_X6 hown hK hP 0 rfl rfl 22 (by decide) (hts _ fl_X6_readings_64) rfl dX6_readings_181 ?_
                                    refine lv_iload_n hx hb dX6_readings_184 rfl (lv_at hl 2 rfl) ?_
                                    refine an_lald (f := y8) hx hb hK hP 18 1 rfl rfl (by decide) (by omega) dX6_readings_185 ?_
                                    refine ln_tol (y := (lN (rdw draft letter long1 sort order L nv (i + 1) k5))) (by rw [hy6 k5 (by omega), e149]; show _ = lN (min _ _); rw [Nat.min_eq_left (by omega)]) ?_
                                    refine an_last (f := u4) (ws' := (wM g trace value draft (nI (L)) (nI (nv)) letter long1 feet sort order left opn own other pick (nI (pn draft L)) frm6 size6 isYear isNext (vp_updL (u4) (k5) (lN (rdw draft letter long1 sort order L nv (i + 1) k5))) y8)) hx hb hK hP (wM_D hd) hS 17 1 rfl rfl (by decide) (by omega) rfl dX6_readings_186 (fun H locs hP hS => ?_)
                                    refine lv_iinc (v := (nI (k5 + 1))) (lv' := [(2, .int (nI (k5 + 1))), (0, .ref (g.2.2 0)), (1, .int (nI (i)))]) hx hb dX6_readings_187 hl (k := 2) rfl (nI_add _ 1) (by decide) rfl (fun ls hl => ?_)
                                    refine lv_goto (tgt := 151) hx hb dX6_readings_190 (by decide) ?_
                                    exact ih_151 (k5 + 1) (vp_updL u4 k5 (lN (rdw draft letter long1 sort order L nv (i + 1) k5))) (by omega) (fun s h => by by_cases e : s = k5; (rw [e]; exact pk_uLs); (rw [pk_uLn e]; exact hu4 s (by omega))) (by omega) _ _ hP hS ls (lv_sub hl [1, 2, 0] rfl)
                                  · have c_171 := (cx_le (by omega) (by omega)).2 c_171
                                    refine lv_ldc2 hx hb hown (hts (.constantLong RX6 162 (2000000000)) (by decide +kernel)) dX6_readings_174 ?_
                                    refine ln_tol (y := lN 2000000000) (by decide) ?_
                                    refine ln_tol (y := (lN (rdw draft letter long1 sort order L nv (i + 1) k5))) (by show _ = lN (min _ _); rw [Nat.min_eq_right (by omega)]) ?_
                                    refine lv_goto (tgt := 186) hx hb dX6_readings_177 (by decide) ?_
                                    refine an_last (f := u4) (ws' := (wM g trace value draft (nI (L)) (nI (nv)) letter long1 feet sort order left opn own other pick (nI (pn draft L)) frm6 size6 isYear isNext (vp_updL (u4) (k5) (lN (rdw draft letter long1 sort order L nv (i + 1) k5))) y8)) hx hb hK hP (wM_D hd) hS 17 1 rfl rfl (by decide) (by omega) rfl dX6_readings_186 (fun H locs hP hS => ?_)
                                    refine lv_iinc (v := (nI (k5 + 1))) (lv' := [(2, .int (nI (k5 + 1))), (0, .ref (g.2.2 0)), (1, .int (nI (i)))]) hx hb dX6_readings_187 hl (k := 2) rfl (nI_add _ 1) (by decide) rfl (fun ls hl => ?_)
                                    refine lv_goto (tgt := 151) hx hb dX6_readings_190 (by decide) ?_
                                    exact ih_151 (k5 + 1) (vp_updL u4 k5 (lN (rdw draft letter long1 sort order L nv (i + 1) k5))) (by omega) (fun s h => by by_cases e : s = k5; (rw [e]; exact pk_uLs); (rw [pk_uLn e]; exact hu4 s (by omega))) (by omega) _ _ hP hS ls (lv_sub hl [1, 2, 0] rfl)
                            exact lp_151 (4 - (0) + 1) 0 u3 (Nat.zero_le _) (fun s h => absurd h (Nat.not_lt_zero s)) (Nat.lt_succ_self _) _ _ hP hS ls (lv_sub hl [1, 2, 0] rfl)
                          · have c_85 := (not_congr (cv_le_nn (by omega) (by omega))).mp c_85
                            have hs9 := hso v (by omega)
                            refine lv_iconst (v := (nI (0))) hx hb dX6_readings_88 (by decide) ?_
                            refine lv_istore_n (lv' := [(3, .int (nI (0))), (0, .ref (g.2.2 0)), (1, .int (nI (i))), (2, .int (nI (v)))]) hx hb dX6_readings_89 rfl hl (by decide) rfl (fun ls hl => ?_)
                            have lp_90 : ∀ (n : Nat) (s2 : Nat) (y9 : Nat → Int64), (s2 ≤ 4) → (fitP draft letter long1 L i v ∨ s2 = 0) → (y9 (tn (sort v)) = lN (rsq draft letter long1 sort order L i (rdw draft letter long1 sort order L nv i) (tn (sort v)) v + wto order sort (rdw draft letter long1 sort order L nv i) v s2)) → (∀ s, s < 4 → s ≠ tn (sort v) → y9 s = lN (rsq draft letter long1 sort order L i (rdw draft letter long1 sort order L nv i) s v)) → 4 - s2 < n → ∀ (H : Heap) (locs : List Loc), va_P g.1 vwCl (wM g trace value draft (nI (L)) (nI (nv)) letter long1 feet sort order left opn own other pick (nI (pn draft L)) frm6 size6 isYear isNext u3 y9) H → va_S (aW 19 g.2.2 s.heap.size) s.heap H locs → ∀ (ls : Array Slot), lv_has ls 4 [(0, .ref (g.2.2 0)), (1, .int (nI (i))), (2, .int (nI (v))), (3, .int (nI (s2)))] → W p l e (headSpec wsX6_readings ({ frames := 1, cells := 0, slots := 0, locals := 25 })).room s m (([.ref (g.2.2 0)] : List Value).toArray) below meth c H locs 0 0 (MQ below (va_Qi (fun (r : Int32) (z : (Nat → Int32) × (Nat → Int32) × Int32 × (Nat → Int64) × (Nat → Int64)) => r = aRead draft letter long1 sort order L nv) (fun (z : (Nat → Int32) × (Nat → Int32) × Int32 × (Nat → Int64) × (Nat → Int64)) (t : State) => va_P g.1 vwCl (wM g trace value draft (nI (L)) (nI (nv)) letter long1 feet sort order left opn own other pick (z.2.2.1) (z.1) (z.2.1) isYear isNext (z.2.2.2.1) (z.2.2.2.2)) t.heap) (aW 19 g.2.2 s.heap.size)) (([.ref (g.2.2 0)] : List Value).toArray) s 0 0 (aW 19 g.2.2 s.heap.size)) (F0 m 90 ls []) := by
                              intro n
                              induction n with
                              | zero => intro s2 y9 hs2 hft hy7 hy8 hm; exact absurd hm (Nat.not_lt_zero _)
                              | succ n ih_90 =>
                                intro s2 y9 hs2 hft hy7 hy8 hm_90 H locs hP hS ls hl
                                refine lv_iload_n hx hb dX6_readings_90 rfl (lv_at hl 3 rfl) ?_
                                refine lv_iconst (v := (nI (4))) hx hb dX6_readings_91 (by decide) ?_
                                refine lv_icmp_ge (tgt := 143) hx hb dX6_readings_92 (by decide) (fun c_92 => ?_) (fun c_92 => ?_)
                                · have c_92 := (cv_le_nn (by omega) (by omega)).mp c_92
                                  refine lv_iinc (v := (nI (v + 1))) (lv' := [(2, .int (nI (v + 1))), (0, .ref (g.2.2 0)), (1, .int (nI (i))), (3, .int (nI (s2)))]) hx hb dX6_readings_143 hl (k := 2) rfl (nI_add _ 1) (by decide) rfl (fun ls hl => ?_)
                                  refine lv_goto (tgt := 80) hx hb dX6_readings_146 (by decide) ?_
                                  exact ih_80 (v + 1) y9 (by omega) (fun s h => by by_cases e : s = tn (sort v); (rw [e, hy7, show s2 = 4 by omega, rsq_at (hft.resolve_right (by omega)) rfl]); (rw [hy8 s h e, rsq_n (fun q => e q.2.symm)])) (by omega) _ _ hP hS ls (lv_sub hl [1, 2, 0] rfl)
                                · have c_92 := (not_congr (cv_le_nn (by omega) (by omega))).mp c_92
                                  refine lv_aload_n hx hb dX6_readings_95 rfl (lv_at hl 0 rfl) ?_
                                  refine lv_iload_n hx hb dX6_readings_96 rfl (lv_at hl 2 rfl) ?_
                                  refine lv_iload_n hx hb dX6_readings_97 rfl (lv_at hl 1 rfl) ?_
                                  refine ro_call (va_runV (As := [.int (nI (v)), .int (nI (i))]) (rest := []) ⟨hx, hb, hml, hown, hts⟩ (c_X6_isFit l (g := g) (trace := trace) (value := value) (draft := draft) (typed := nI (L)) (vocables := nI (nv)) (letter := letter) (long1 := long1) (feet := feet) (sort := sort) (order := order) (left := left) (opn := opn) (own := own) (other := other) (pick := pick) (parts := nI (pn draft L)) (frm := frm6) (size := size6) (isYear := isYear) (isNext := isNext) (ways := u3) (nextWays := y9) (v) (i) L nv hnv (by omega) hL2 (by omega) hq2 hle) (cwV 2 hts gX6_readings_X6_isFit rfl rfl rfl (by decide +kernel) ⟨Nat.le_of_ble_eq_true rfl, Nat.le_of_ble_eq_true rfl⟩) (pre_V pW_bl (va_recv hK hP (ci := 6) (q0 := 0) rfl rfl) (fun U hU hW => pW_of hP hK hN hU hW)) rfl rfl hl.1 rfl (lv_room (Nat.le_of_ble_eq_true rfl)) dX6_readings_98 ⟨Nat.zero_le _, Nat.zero_le _⟩) ?_
                                  refine lv_if_eq (tgt := 143) hx hb dX6_readings_101 (by decide) (fun c_101 => ?_) (fun c_101 => ?_)
                                  · have c_101 := if_n c_101
                                    refine lv_iinc (v := (nI (v + 1))) (lv' := [(2, .int (nI (v + 1))), (0, .ref (g.2.2 0)), (1, .int (nI (i))), (3, .int (nI (s2)))]) hx hb dX6_readings_143 hl (k := 2) rfl (nI_add _ 1) (by decide) rfl (fun ls hl => ?_)
                                    refine lv_goto (tgt := 80) hx hb dX6_readings_146 (by decide) ?_
                                    exact ih_80 (v + 1) y9 (by omega) (fun s h => by by_cases e : s = tn (sort v); (rw [e, hy7, show s2 = 0 from hft.resolve_left c_101, show wto order sort (rdw draft letter long1 sort order L nv i) v 0 = 0 from rfl, Nat.add_zero, rsq_n (fun q => c_101 q.1)]); (rw [hy8 s h e, rsq_n (fun q => e q.2.symm)])) (by omega) _ _ hP hS ls (lv_sub hl [1, 2, 0] rfl)
                                  · have c_101 := if_p c_101
                                    refine lv_aload_n hx hb dX6_readings_104 rfl (lv_at hl 0 rfl) ?_
                                    refine an_get (ci := 6) (v := .ref (g.2.2 18)) (C := RX6) (T := TX6) (N := 23) hx hb hts iw_X6_readings_X6 hown hK hP 0 rfl rfl 22 (by decide) (hts _ fl_X6_readings_64) rfl dX6_readings_105 ?_
                                    refine lv_aload_n hx hb dX6_readings_108 rfl (lv_at hl 0 rfl) ?_
                                    refine an_get (ci := 6) (v := .ref (g.2.2 6)) (C := RX6) (T := TX6) (N := 23) hx hb hts iw_X6_readings_X6 hown hK hP 0 rfl rfl 9 (by decide) (hts _ fl_X6_readings_25) rfl dX6_readings_109 ?_
                                    refine lv_iload_n hx hb dX6_readings_112 rfl (lv_at hl 2 rfl) ?_
                                    refine an_iald (f := sort) hx hb hK hP 6 0 rfl rfl (by decide) (by omega) dX6_readings_113 ?_
                                    refine ln_toi (y := (nI (tn (sort v)))) (hs9.1) ?_
                                    refine lv_dup2_11 hx hb dX6_readings_114 rfl rfl ?_
                                    refine an_lald (f := y9) hx hb hK hP 18 1 rfl rfl (by decide) (by omega) dX6_readings_115 ?_
                                    refine ln_tol (y := (lN (rsq draft letter long1 sort order L i (rdw draft letter long1 sort order L nv i) (tn (sort v)) v + wto order sort (rdw draft letter long1 sort order L nv i) v s2))) (hy7) ?_
                                    refine lv_aload_n hx hb dX6_readings_116 rfl (lv_at hl 0 rfl) ?_
                                    refine lv_iload_n hx hb dX6_readings_117 rfl (lv_at hl 3 rfl) ?_
                                    refine lv_iload_n hx hb dX6_readings_118 rfl (lv_at hl 2 rfl) ?_
                                    refine ro_call (va_runV (As := [.int (nI (s2)), .int (nI (v))]) (rest := [.long (lN (rsq draft letter long1 sort order L i (rdw draft letter long1 sort order L nv i) (tn (sort v)) v + wto order sort (rdw draft letter long1 sort order L nv i) v s2)), .int (nI (tn (sort v))), .ref (g.2.2 18)]) ⟨hx, hb, hml, hown, hts⟩ (c_X6_isAfter l (g := g) (trace := trace) (value := value) (draft := draft) (typed := nI (L)) (vocables := nI (nv)) (letter := letter) (long1 := long1) (feet := feet) (sort := sort) (order := order) (left := left) (opn := opn) (own := own) (other := other) (pick := pick) (parts := nI (pn draft L)) (frm := frm6) (size := size6) (isYear := isYear) (isNext := isNext) (ways := u3) (nextWays := y9) (s2) (v) (by omega) (by omega)) (cwV 2 hts gX6_readings_X6_isAfter rfl rfl rfl (by decide +kernel) ⟨Nat.le_of_ble_eq_true rfl, Nat.le_of_ble_eq_true rfl⟩) (pre_V pW_bl (va_recv hK hP (ci := 6) (q0 := 0) rfl rfl) (fun U hU hW => pW_of hP hK hN hU hW)) rfl rfl hl.1 rfl (lv_room (Nat.le_of_ble_eq_true rfl)) dX6_readings_119 ⟨Nat.zero_le _, Nat.zero_le _⟩) ?_
                                    refine lv_if_eq (tgt := 134) hx hb dX6_readings_122 (by decide) (fun c_122 => ?_) (fun c_122 => ?_)
                                    · have c_122 := if_n c_122
                                      refine lv_lconst (v := (lN (0))) hx hb dX6_readings_134 (by decide) ?_
                                      refine ln_ladd hx hb dX6_readings_135 ?_
                                      refine ln_tol (y := (lN (rsq draft letter long1 sort order L i (rdw draft letter long1 sort order L nv i) (tn (sort v)) v + wto order sort (rdw draft letter long1 sort order L nv i) v (s2 + 1)))) (by rw [Nat.add_assoc]; exact congrArg (fun q => lN (rsq draft letter long1 sort order L i (rdw draft letter long1 sort order L nv i) (tn (sort v)) v + q)) (wto_n (w := rdw draft letter long1 sort order L nv i) c_122)) ?_
                                      refine an_last (f := y9) (ws' := (wM g trace value draft (nI (L)) (nI (nv)) letter long1 feet sort order left opn own other pick (nI (pn draft L)) frm6 size6 isYear isNext u3 (vp_updL (y9) (tn (sort v)) (lN (rsq draft letter long1 sort order L i (rdw draft letter long1 sort order L nv i) (tn (sort v)) v + wto order sort (rdw draft letter long1 sort order L nv i) v (s2 + 1)))))) hx hb hK hP (wM_D hd) hS 18 1 rfl rfl (by decide) (by omega) rfl dX6_readings_136 (fun H locs hP hS => ?_)
                                      refine lv_iinc (v := (nI (s2 + 1))) (lv' := [(3, .int (nI (s2 + 1))), (0, .ref (g.2.2 0)), (1, .int (nI (i))), (2, .int (nI (v)))]) hx hb dX6_readings_137 hl (k := 3) rfl (nI_add _ 1) (by decide) rfl (fun ls hl => ?_)
                                      refine lv_goto (tgt := 90) hx hb dX6_readings_140 (by decide) ?_
                                      exact ih_90 (s2 + 1) (vp_updL y9 (tn (sort v)) (lN (rsq draft letter long1 sort order L i (rdw draft letter long1 sort order L nv i) (tn (sort v)) v + wto order sort (rdw draft letter long1 sort order L nv i) v (s2 + 1)))) (by omega) (Or.inl c_101) (pk_uLs) (fun s h e => by rw [pk_uLn e]; exact hy8 s h e) (by omega) _ _ hP hS ls (lv_sub hl [1, 2, 3, 0] rfl)
                                    · have c_122 := if_p c_122
                                      refine lv_aload_n hx hb dX6_readings_125 rfl (lv_at hl 0 rfl) ?_
                                      refine an_get (ci := 6) (v := .ref (g.2.2 17)) (C := RX6) (T := TX6) (N := 23) hx hb hts iw_X6_readings_X6 hown hK hP 0 rfl rfl 21 (by decide) (hts _ fl_X6_readings_61) rfl dX6_readings_126 ?_
                                      refine lv_iload_n hx hb dX6_readings_129 rfl (lv_at hl 3 rfl) ?_
                                      refine an_lald (f := u3) hx hb hK hP 17 1 rfl rfl (by decide) (by omega) dX6_readings_130 ?_
                                      refine ln_tol (y := (lN (rdw draft letter long1 sort order L nv i s2))) (hu3 s2 (by omega)) ?_
                                      refine lv_goto (tgt := 135) hx hb dX6_readings_131 (by decide) ?_
                                      refine ln_ladd hx hb dX6_readings_135 ?_
                                      refine ln_tol (y := (lN (rsq draft letter long1 sort order L i (rdw draft letter long1 sort order L nv i) (tn (sort v)) v + wto order sort (rdw draft letter long1 sort order L nv i) v (s2 + 1)))) (by rw [Nat.add_assoc]; exact congrArg (fun q => lN (rsq draft letter long1 sort order L i (rdw draft letter long1 sort order L nv i) (tn (sort v)) v + q)) (wto_y (w := rdw draft letter long1 sort order L nv i) c_122)) ?_
                                      refine an_last (f := y9) (ws' := (wM g trace value draft (nI (L)) (nI (nv)) letter long1 feet sort order left opn own other pick (nI (pn draft L)) frm6 size6 isYear isNext u3 (vp_updL (y9) (tn (sort v)) (lN (rsq draft letter long1 sort order L i (rdw draft letter long1 sort order L nv i) (tn (sort v)) v + wto order sort (rdw draft letter long1 sort order L nv i) v (s2 + 1)))))) hx hb hK hP (wM_D hd) hS 18 1 rfl rfl (by decide) (by omega) rfl dX6_readings_136 (fun H locs hP hS => ?_)
                                      refine lv_iinc (v := (nI (s2 + 1))) (lv' := [(3, .int (nI (s2 + 1))), (0, .ref (g.2.2 0)), (1, .int (nI (i))), (2, .int (nI (v)))]) hx hb dX6_readings_137 hl (k := 3) rfl (nI_add _ 1) (by decide) rfl (fun ls hl => ?_)
                                      refine lv_goto (tgt := 90) hx hb dX6_readings_140 (by decide) ?_
                                      exact ih_90 (s2 + 1) (vp_updL y9 (tn (sort v)) (lN (rsq draft letter long1 sort order L i (rdw draft letter long1 sort order L nv i) (tn (sort v)) v + wto order sort (rdw draft letter long1 sort order L nv i) v (s2 + 1)))) (by omega) (Or.inl c_101) (pk_uLs) (fun s h e => by rw [pk_uLn e]; exact hy8 s h e) (by omega) _ _ hP hS ls (lv_sub hl [1, 2, 3, 0] rfl)
                            exact lp_90 (4 - (0) + 1) 0 y8 (Nat.zero_le _) (Or.inr rfl) (by rw [hy6 _ (by omega)]; rfl) (fun s h e => hy6 s h) (Nat.lt_succ_self _) _ _ hP hS ls (lv_sub hl [1, 2, 3, 0] rfl)
                      exact lp_80 (nv - (0) + 1) 0 x4 (Nat.zero_le _) (fun s h => hx4 s (by omega)) (Nat.lt_succ_self _) _ _ hP hS ls (lv_sub hl [1, 2, 0] rfl)
                    · have c_62 := (not_congr (cv_le_nn (by omega) (by omega))).mp c_62
                      refine lv_aload_n hx hb dX6_readings_65 rfl (lv_at hl 0 rfl) ?_
                      refine an_get (ci := 6) (v := .ref (g.2.2 18)) (C := RX6) (T := TX6) (N := 23) hx hb hts iw_X6_readings_X6 hown hK hP 0 rfl rfl 22 (by decide) (hts _ fl_X6_readings_64) rfl dX6_readings_66 ?_
                      refine lv_iload_n hx hb dX6_readings_69 rfl (lv_at hl 2 rfl) ?_
                      refine lv_lconst (v := (lN (0))) hx hb dX6_readings_70 (by decide) ?_
                      refine an_last (f := x4) (ws' := (wM g trace value draft (nI (L)) (nI (nv)) letter long1 feet sort order left opn own other pick (nI (pn draft L)) frm6 size6 isYear isNext u3 (vp_updL (x4) (k2) (lN (0))))) hx hb hK hP (wM_D hd) hS 18 1 rfl rfl (by decide) (by omega) rfl dX6_readings_71 (fun H locs hP hS => ?_)
                      refine lv_iinc (v := (nI (k2 + 1))) (lv' := [(2, .int (nI (k2 + 1))), (0, .ref (g.2.2 0)), (1, .int (nI (i)))]) hx hb dX6_readings_72 hl (k := 2) rfl (nI_add _ 1) (by decide) rfl (fun ls hl => ?_)
                      refine lv_goto (tgt := 60) hx hb dX6_readings_75 (by decide) ?_
                      exact ih_60 (k2 + 1) (vp_updL x4 k2 (lN 0)) (by omega) (fillL_s hx4) (by omega) _ _ hP hS ls (lv_sub hl [1, 2, 0] rfl)
                exact lp_60 (4 - (0) + 1) 0 x3 (Nat.zero_le _) (fun s h => absurd h (Nat.not_lt_zero s)) (Nat.lt_succ_self _) _ _ hP hS ls (lv_sub hl [1, 2, 0] rfl)
          exact lp_50 (pn draft L - (0) + 1) 0 u nextWays (Nat.zero_le _) (fun s h => hu s (by omega)) (Nat.lt_succ_self _) _ _ hP hS ls (lv_sub hl [1, 0] rfl)
        · have c_23 := (not_congr (cv_le_nn (by omega) (by omega))).mp c_23
          refine lv_aload_n hx hb dX6_readings_26 rfl (lv_at hl 0 rfl) ?_
          refine an_get (ci := 6) (v := .ref (g.2.2 17)) (C := RX6) (T := TX6) (N := 23) hx hb hts iw_X6_readings_X6 hown hK hP 0 rfl rfl 21 (by decide) (hts _ fl_X6_readings_61) rfl dX6_readings_27 ?_
          refine lv_iload_n hx hb dX6_readings_30 rfl (lv_at hl 1 rfl) ?_
          refine lv_iload_n hx hb dX6_readings_31 rfl (lv_at hl 1 rfl) ?_
          refine lv_iconst (v := (nI (3))) hx hb dX6_readings_32 (by decide) ?_
          refine lv_icmp_ne (tgt := 40) hx hb dX6_readings_33 (by decide) (fun c_33 => ?_) (fun c_33 => ?_)
          · have c_33 := (not_congr (cv_eq_nn (by omega) (by omega))).mp c_33
            refine lv_lconst (v := (lN (0))) hx hb dX6_readings_40 (by decide) ?_
            refine ln_tol (y := (lN (rdw draft letter long1 sort order L nv 0 k))) (by show _ = lN (if k = 3 then 1 else 0); rw [if_neg (by omega)]) ?_
            refine an_last (f := u) (ws' := (wM g trace value draft (nI (L)) (nI (nv)) letter long1 feet sort order left opn own other pick (nI (pn draft L)) frm6 size6 isYear isNext (vp_updL (u) (k) (lN (rdw draft letter long1 sort order L nv 0 k))) nextWays)) hx hb hK hP (wM_D hd) hS 17 1 rfl rfl (by decide) (by omega) rfl dX6_readings_41 (fun H locs hP hS => ?_)
            refine lv_iinc (v := (nI (k + 1))) (lv' := [(1, .int (nI (k + 1))), (0, .ref (g.2.2 0))]) hx hb dX6_readings_42 hl (k := 1) rfl (nI_add _ 1) (by decide) rfl (fun ls hl => ?_)
            refine lv_goto (tgt := 21) hx hb dX6_readings_45 (by decide) ?_
            exact ih_21 (k + 1) (vp_updL u k (lN (rdw draft letter long1 sort order L nv 0 k))) (by omega) (fun s h => by by_cases e : s = k; (rw [e]; exact pk_uLs); (rw [pk_uLn e]; exact hu s (by omega))) (by omega) _ _ hP hS ls (lv_sub hl [1, 0] rfl)
          · have c_33 := (cv_eq_nn (by omega) (by omega)).mp c_33
            refine lv_lconst (v := (lN (1))) hx hb dX6_readings_36 (by decide) ?_
            refine ln_tol (y := (lN (rdw draft letter long1 sort order L nv 0 k))) (by show _ = lN (if k = 3 then 1 else 0); rw [if_pos (by omega)]) ?_
            refine lv_goto (tgt := 41) hx hb dX6_readings_37 (by decide) ?_
            refine an_last (f := u) (ws' := (wM g trace value draft (nI (L)) (nI (nv)) letter long1 feet sort order left opn own other pick (nI (pn draft L)) frm6 size6 isYear isNext (vp_updL (u) (k) (lN (rdw draft letter long1 sort order L nv 0 k))) nextWays)) hx hb hK hP (wM_D hd) hS 17 1 rfl rfl (by decide) (by omega) rfl dX6_readings_41 (fun H locs hP hS => ?_)
            refine lv_iinc (v := (nI (k + 1))) (lv' := [(1, .int (nI (k + 1))), (0, .ref (g.2.2 0))]) hx hb dX6_readings_42 hl (k := 1) rfl (nI_add _ 1) (by decide) rfl (fun ls hl => ?_)
            refine lv_goto (tgt := 21) hx hb dX6_readings_45 (by decide) ?_
            exact ih_21 (k + 1) (vp_updL u k (lN (rdw draft letter long1 sort order L nv 0 k))) (by omega) (fun s h => by by_cases e : s = k; (rw [e]; exact pk_uLs); (rw [pk_uLn e]; exact hu s (by omega))) (by omega) _ _ hP hS ls (lv_sub hl [1, 0] rfl)
    exact lp_21 (4 - (0) + 1) 0 ways (Nat.zero_le _) (fun s h => absurd h (Nat.not_lt_zero s)) (Nat.lt_succ_self _) _ _ hP hS ls (lv_sub hl [1, 0] rfl)
  · have c_13 := (cz_eq_n (by omega)).mp c_13
    refine lv_bipush (v := ((-2 : Int32))) hx hb dX6_readings_16 (by decide) ?_
    exact wr_iret (frm6, size6, nI (pn draft L), ways, nextWays) hx hb hr hlocks (by unfold aRead; rw [if_pos (by omega)]) (fun t ht => show va_P g.1 vwCl (wM g trace value draft (nI (L)) (nI (nv)) letter long1 feet sort order left opn own other pick (nI (pn draft L)) frm6 size6 isYear isNext ways nextWays) t.heap by rw [ht]; exact hP) hS dX6_readings_18
