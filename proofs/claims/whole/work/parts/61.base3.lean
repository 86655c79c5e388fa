/-! ===== making: new rows, final fields, a copy out of a static table ===== -/
def tFl : List Nat := [0, 0, 100, 500, 0, 0, 0, 0, 1, 0, 0, 50, 1000, 0, 0, 0, 0, 0, 0, 0, 0, 5, 0, 10, 0, 0]
def tF (k : Nat) : Int32 := nI (tFl.getD k 0)
section BD
variable {p : Program} {l : Launch} {e : Env} {R : Room} {s : State} {m : MethodId} {args : Array Value} {below : List Frame} {meth : Method} {c : Code} {H : Heap} {locs : List Loc} {cells slots : Nat} {Q : State → Prop} {cc : ByteArray} {pc : Nat} {ls : Array Slot} {rest : List Value}
variable {D : va_G} {cl : List vw_C} {A : Nat → Prop} {b : Nat} {tys : List (ClassId × FieldType)} {ws : va_W} {H0 : Heap}
theorem an_newa (hexec : p.tables.exec = Jvm.exec) (hb : c.code = cc) {atype : ArrayType} (harr : (Cond.arrayClass (newarray.typeOf atype)).before args s = true) {ty : FieldType} (hty : newarray.typeOf atype = ty) (hK : va_K D cl tys s) (t0 : Nat) {cA : ClassId} (ht : tys[t0]? = some (cA, ty)) (hnr : ∀ k, va_RA s k ty → s.vm.findClass ("[" ++ ty.toString) = some k) (hP : va_P D cl ws H) (hD : va_D A ws) (hS : va_S A H0 H locs) (hA : ∀ q, H0.size ≤ q → A q)
    {N' : Nat} {a0 : vp_A} (ha : ∀ k : ClassId, vp_cell k a0 = arrV k N' (fun _ => defaultValue ty)) (hn : N' < 2 ^ 31) (hbytes : N' * componentBytes ty ≤ 536870912) (hcells : cells + 1 ≤ R.cells) (hslots : slots + N' ≤ R.slots) (hdg : decode cc pc = .ok (.newarray atype, 2))
    (kk : ∀ (q : Nat) (H1 : Heap), va_P D cl (ws ++ [(q, .inl (cA, a0))]) H1 → va_D A (ws ++ [(q, .inl (cA, a0))]) → va_S A H0 H1 locs → W p l e R s m args below meth c H1 locs (cells + 1) (slots + N') Q (F0 m (pc + 2) ls (.ref q :: rest))) : W p l e R s m args below meth c H locs cells slots Q (F0 m pc ls (.int (nI N') :: rest)) := by
  refine va_newa hexec hb harr hty hK hP hD hS hA ha (nI_pos hn) (nI_clamp hn) hbytes hcells hslots hdg (fun q k H1 hK1 hP1 hD1 hS1 => ?_)
  have h1 := hnr cA (hK.2 t0 _ ht).2
  have h2 := hnr k (hK1.2 tys.length (k, ty) (by rw [List.getElem?_append_right (Nat.le_refl _), Nat.sub_self]; rfl)).2
  have h3 : k = cA := Option.some.inj (h2.symm.trans h1)
  subst h3
  exact kk q H1 hP1 hD1 hS1
theorem an_copyT (hexec : p.tables.exec = Jvm.exec) (hb : c.code = cc) (hml : c.maxLocals = ls.size) {own : String} {index : Nat} (hown : s.vm.findClass own = some m.cls) (hlink : (Cond.methodLink own index arraycopyName).before args s = true) (hnat : (Cond.native arraycopyName).before args s = true) (hstat : (Cond.static arraycopyName).before args s = true) (hini : (Cond.initialized "java/lang/System").before args s = true)
    (hK : va_K D cl tys s) (hP : va_P D cl ws H) (hD : va_D A ws) (hS : va_S A s.heap H locs) {t9 n0 : Nat} {f : Nat → Int32} (hT0 : va_T .int t9 n0 (fun j => .int (f j)) A s s.heap) (q1 t1 : Nat) {c1 : ClassId} {n1 : Nat} {f1 : Nat → Int32} (ha1 : ws[q1]? = some (b, .inl (c1, n1, .inl f1))) (ht1 : tys[t1]? = some (c1, .int))
    {sp dp n : Nat} (g1 : sp < 2 ^ 31) (g2 : dp < 2 ^ 31) (g3 : n < 2 ^ 31) (h4 : sp + n ≤ n0) (h5 : dp + n ≤ n1)
    (hframes : 1 ≤ R.frames) (hlocals : (rest.map fun v => v.category).sum + (nativeFrameWords "java/lang/System" "arraycopy" 5 + 11) ≤ R.locals) (hdg : decode cc pc = .ok (.invokestatic index, 3))
    (kk : ∀ (H1 : Heap) (locs1 : List Loc), va_P D cl (ws.set q1 (b, .inl (c1, n1, .inl (va_cpy f f1 sp dp n)))) H1 → va_D A (ws.set q1 (b, .inl (c1, n1, .inl (va_cpy f f1 sp dp n)))) → va_S A s.heap H1 locs1 → W p l e R s m args below meth c H1 locs1 cells slots Q (F0 m (pc + 3) ls rest)) : W p l e R s m args below meth c H locs cells slots Q (F0 m pc ls (.int (nI n) :: .int (nI dp) :: .ref b :: .int (nI sp) :: .ref t9 :: rest)) := by
  intro T hT X
  obtain ⟨scr, z1, z2, z3, z4, -, z5, z6⟩ := hT0
  obtain ⟨z7, k0, z8, m0, z9⟩ := z2
  obtain ⟨-, k1, y1, m1, y2⟩ := (hK.2 t1 _ ht1).1 n1 (fun j => .int (f1 j))
  have i1 := nI_toInt g1
  have i2 := nI_toInt g2
  have i3 := nI_toInt g3
  have j1 := nI_clamp g1
  have j2 := nI_clamp g2
  have j3 := nI_clamp g3
  have x0 : T.heap[t9]? = some scr := by rw [hT, hS.2.1 t9 (Array.getElem?_eq_some_iff.mp z1).1 z6]; exact z1
  have x1 : H[b]? = some (vp_cell c1 (n1, .inl f1)) := hP q1 _ ha1
  have rd : ∀ i, i < n → scr.slots.getD (sp + i) .null = .int (f (sp + i)) := fun i hi => by
    rw [Array.getD_eq_getD_getElem?, z5 _ (by omega)]; rfl
  have big : (vp_cell c1 (n1, .inl f1)).slots.size = n1 := by
    show (arrV c1 n1 (fun j => .int (f1 j))).slots.size = n1
    rw [arrV_size]
  obtain ⟨vm', X', step⟩ := X.arraycopy hexec hown hlink hnat hstat hini (cs := scr) (cd := vp_cell c1 (n1, .inl f1)) (srcPos := nI sp) (destPos := nI dp) (n := nI n) x0 (hT ▸ x1) z7 (fun _ h => by cases h) z3 (fun h => by cases h) z8 y1 z9 y2 (by simp [refKind]) (nI_pos g1) (nI_pos g2) (nI_pos g3) (by rw [i1, i3]; omega) (by rw [i2, i3, big]; omega)
    (fun vm₁ _ i hi => by rw [j1]; rw [j3] at hi; rw [rd i hi]; exact ⟨rfl, trivial⟩)
    (g := F0 m pc ls (.int (nI n) :: .int (nI dp) :: .ref b :: .int (nI sp) :: .ref t9 :: rest)) rfl hml.symm (rest := rest) rfl (by rw [hb]; exact hdg) hframes (by show 2 * 0 + _ + _ ≤ _; omega)
  have done : copied scr (vp_cell c1 (n1, .inl f1)) (nI sp) (nI dp) (nI n) = vp_cell c1 (n1, .inl (va_cpy f f1 sp dp n)) := by
    show (arrV c1 n1 (fun j => .int (f1 j))).storeRun (nI dp).toNatClampNeg (scr.stretch (nI sp).toNatClampNeg (nI n).toNatClampNeg) = _
    rw [j1, j2, j3]
    exact va_copiedX (fun x => .int x) scr c1 f f1 z5 h4
  rw [done] at X' step
  have lt : b < H.size := (Array.getElem?_eq_some_iff.mp x1).1
  have other : ∀ q : Nat, q ≠ b → (H.setIfInBounds b (vp_cell c1 (n1, .inl (va_cpy f f1 sp dp n))))[q]? = H[q]? := fun q hq => by simp [Array.getElem?_setIfInBounds, Ne.symm hq]
  have inA : A b := hD.2 q1 _ ha1
  refine (kk (H.setIfInBounds b (vp_cell c1 (n1, .inl (va_cpy f f1 sp dp n)))) _ (hP.set hD ha1 (show (H.setIfInBounds b _)[b]? = some _ by simp [Array.getElem?_setIfInBounds, lt]) other) (hD.set ha1) ⟨by simp; exact hS.1, fun q u1 u2 => ?_, fun q hq => ?_⟩ _ (by rw [← hT]; rfl) X').imp (fun t ht => ⟨step t ht.1, ht.2⟩)
  · rw [other q (fun h => u2 (h ▸ inA))]; exact hS.2.1 q u1 u2
  · rcases List.mem_append.mp hq with h | h
    · exact hS.2.2 q h
    · obtain ⟨w, -, rfl⟩ := List.mem_map.mp h
      exact inA
end BD
/-- a constructor's start: its cells, apart; the tables -/
def cW (g : GW) (ws : va_W) (sz : Nat) (U : State) : Prop := U.heap.size = sz ∧ va_P g.1 vwCl ws U.heap ∧ va_K g.1 vwCl (tyW g) U ∧ nwX U ∧ va_D (fun _ => True) ws
theorem cW_bl {g : GW} {ws : va_W} {sz : Nat} (U : State) (f : JFrame) (mk : MethodId) (a : Array Value) (h : cW g ws sz U) : cW g ws sz (U.calling f mk a) := ⟨h.1, h.2.1, va_K.moved (u := U) (U := U.calling f mk a) (Vm.Alike.refl U.vm) h.2.2.1, nwX_call h.2.2.2.1, h.2.2.2.2⟩
theorem cW_of {g : GW} {ws : va_W} {s U : State} {H : Heap} {A : Nat → Prop} (hP : va_P g.1 vwCl ws H) (hK : va_K g.1 vwCl (tyW g) s) (hN : nwX s) (hD : va_D A ws) (hU : U.heap = H) (hW : s.WarmedH U.vm) : cW g ws H.size U := ⟨by rw [hU], by rw [hU]; exact hP, va_K.moved hW.alike hK, nwX_warm hW hN, hD.weaken (fun _ _ _ _ => trivial)⟩
/-- the table of the first values, out of the reach of A -/
def fA (A : Nat → Prop) (U : State) : Prop := va_Nw (.fieldLinkNest RX0 15 "VerseYears" "FIRST_VALUES" "[I" "VerseYears") U ∧ ∃ t : Nat, va_Z "VerseYears" "FIRST_VALUES" "[I" (.ref t) A U U.heap ∧ va_T .int t 26 (fun j => .int (tF j)) A U U.heap
theorem fA_bl {A : Nat → Prop} (U : State) (f : JFrame) (mk : MethodId) (a : Array Value) (h : fA A U) : fA A (U.calling f mk a) := by
  obtain ⟨h0, t, h1, h2⟩ := h
  exact ⟨va_Nw.same rfl rfl h0, t, va_Z.moved (u := U) (U := U.calling f mk a) (Vm.Alike.refl U.vm) h1, va_T.moved (u := U) (U := U.calling f mk a) (Vm.Alike.refl U.vm) h2⟩
theorem fA_of {A B : Nat → Prop} {s U : State} {H : Heap} {locs : List Loc} (h : fA A s) (hS : va_S A s.heap H locs) (hB : ∀ q, B q → A q) (hU : U.heap = H) (hW : s.WarmedH U.vm) : fA B U := by
  obtain ⟨h0, t, h1, h2⟩ := h
  refine ⟨va_Nw.warmF hW h0, t, ?_, ?_⟩
  · rw [hU]; exact va_Z.moved hW.alike ((h1.kept hS.2.1).narrow hB)
  · rw [hU]; exact va_T.moved hW.alike ((h2.kept hS.2.1).narrow hB)
/-! ===== what the rows hold at first ===== -/
def cpf : Nat → Nat → Int32
  | 0 => fun _ => (0 : Int32)
  | k + 1 => va_cpy tF (cpf k) 0 (k * 26) 26
def vI : Nat → Nat → Int32
  | 0 => fun _ => (0 : Int32)
  | k + 1 => upd (upd (upd (upd (upd (upd (upd (vI k) (26 * k + 105 - 97) (nI 1)) (26 * k + 118 - 97) (nI 5)) (26 * k + 120 - 97) (nI 10)) (26 * k + 108 - 97) (nI 50)) (26 * k + 99 - 97) (nI 100)) (26 * k + 100 - 97) (nI 500)) (26 * k + 109 - 97) (nI 1000)
def oI : Nat → Nat → Int32
  | 0 => fun _ => (0 : Int32)
  | k + 1 => upd (oI k) k (nI 7)
theorem vI_o : ∀ k j, k ≤ 4 → 104 ≤ j → vI k j = 0
  | 0, _, _, _ => rfl
  | k + 1, j, hk, hj => by
    show upd (upd (upd (upd (upd (upd (upd (vI k) (26 * k + 105 - 97) (nI 1)) (26 * k + 118 - 97) (nI 5)) (26 * k + 120 - 97) (nI 10)) (26 * k + 108 - 97) (nI 50)) (26 * k + 99 - 97) (nI 100)) (26 * k + 100 - 97) (nI 500)) (26 * k + 109 - 97) (nI 1000) j = 0
    rw [pk_un (by omega), pk_un (by omega), pk_un (by omega), pk_un (by omega), pk_un (by omega), pk_un (by omega), pk_un (by omega)]
    exact vI_o k j (by omega) hj
theorem cpf_o : ∀ k j, k ≤ 4 → 104 ≤ j → cpf k j = 0
  | 0, _, _, _ => rfl
  | k + 1, j, hk, hj => by
    show va_cpy tF (cpf k) 0 (k * 26) 26 j = 0
    unfold va_cpy
    rw [if_neg (by omega)]
    exact cpf_o k j (by omega) hj
theorem vI_104 : ∀ j, j < 104 → vI 4 j = cpf 4 j := by decide +kernel
theorem vI_e : vI 4 = cpf 4 := by
  funext j
  rcases Nat.lt_or_ge j 104 with h | h
  · exact vI_104 j h
  · rw [vI_o 4 j (by decide) h, cpf_o 4 j (by decide) h]
theorem cpf_ok : okV (cpf 4) 104 0 1000 := by
  have : ∀ j, j < 104 → cpf 4 j = nI (tn (cpf 4 j)) ∧ tn (cpf 4 j) ≤ 1000 := by decide +kernel
  exact fun j hj => ⟨(this j hj).1, Nat.zero_le _, (this j hj).2⟩
def fil (f : Nat → Int32) (v : Int32) (i : Nat) : Nat → Int32 := fun k => if k < i then v else f k
theorem fil_0 (f : Nat → Int32) (v : Int32) : fil f v 0 = f := by funext k; unfold fil; rw [if_neg (by omega)]
theorem fil_s (f : Nat → Int32) (v : Int32) (i : Nat) : upd (fil f v i) i v = fil f v (i + 1) := by
  funext k
  unfold upd fil
  by_cases e : k = i
  · rw [if_pos e, if_pos (by omega)]
  · rw [if_neg e]
    by_cases h : k < i
    · rw [if_pos h, if_pos (by omega)]
    · rw [if_neg h, if_neg (by omega)]
theorem oI_e : oI 4 = fil (fun _ => (0 : Int32)) (nI 7) 4 := by
  have : ∀ k, oI k = fil (fun _ => (0 : Int32)) (nI 7) k := by
    intro k
    induction k with
    | zero => exact (fil_0 _ _).symm
    | succ k ih => show upd (oI k) k (nI 7) = _; rw [ih, fil_s]
  exact this 4
