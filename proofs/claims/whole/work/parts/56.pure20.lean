theorem ty_lt {r : Nat → Int64} {w yy : Nat} {bb : Int64} (hbt : ∀ j, (uN bb).testBit j = (uN (bo r w 3)).testBit (yy - 64 * w + j)) (h1 : 64 * w ≤ yy) (h : ¬ bb.toInt = (lN 0).toInt) : yy < 64 * w + 64 := by
  obtain ⟨j, hj⟩ := tb_nz h
  rw [hbt j] at hj
  rcases Nat.lt_or_ge (yy - 64 * w + j) 64 with q | q
  · omega
  · rw [tb_big _ q] at hj; cases hj
theorem ty_q {Q : Nat → Prop} {r : Nat → Int64} {w yy : Nat} {bb : Int64} (hq : ∀ j, j < 64 → ((uN (bo r w 3)).testBit j = true ↔ Q (64 * w + j))) (hbt : ∀ j, (uN bb).testBit j = (uN (bo r w 3)).testBit (yy - 64 * w + j)) (h1 : 64 * w ≤ yy) (h2 : yy < 64 * w + 64) : (uN bb).testBit 0 = true ↔ Q yy := by
  have := hq (yy - 64 * w) (by omega)
  rw [hbt 0, Nat.add_zero, this, show 64 * w + (yy - 64 * w) = yy by omega]
theorem ty_s {r : Nat → Int64} {w yy : Nat} {bb : Int64} (hbt : ∀ j, (uN bb).testBit j = (uN (bo r w 3)).testBit (yy - 64 * w + j)) (h1 : 64 * w ≤ yy) : ∀ j, (uN (bb.toUInt64 >>> ((nI 1).toInt64.toUInt64 &&& Int64.toUInt64 63)).toInt64).testBit j = (uN (bo r w 3)).testBit (yy + 1 - 64 * w + j) := by
  intro j
  rw [tb_shr _ (by decide), hbt, show yy - 64 * w + (1 + j) = yy + 1 - 64 * w + j by omega]
theorem ty_z {Q : Nat → Prop} {r : Nat → Int64} {w yy : Nat} {bb : Int64} (hq : ∀ j, j < 64 → ((uN (bo r w 3)).testBit j = true ↔ Q (64 * w + j))) (hbt : ∀ j, (uN bb).testBit j = (uN (bo r w 3)).testBit (yy - 64 * w + j)) (h1 : 64 * w ≤ yy) (h2 : yy ≤ min (64 * w + 64) 3001) (h : bb.toInt = (lN 0).toInt) : nI (ycn Q yy) = nI (ycn Q (min (64 * w + 64) 3001)) ∧ yfi Q yy = yfi Q (min (64 * w + 64) 3001) ∧ yla Q yy = yla Q (min (64 * w + 64) 3001) := by
  have := y_skip (Q := Q) (a := yy) (min (64 * w + 64) 3001 - yy) (fun z hz hz2 hQ => by
    have q := (hq (z - 64 * w) (by omega)).mpr (by rw [show 64 * w + (z - 64 * w) = z by omega]; exact hQ)
    have q2 := hbt (z - yy)
    rw [tb_z h, show yy - 64 * w + (z - yy) = z - 64 * w by omega, q] at q2
    cases q2)
  rw [show yy + (min (64 * w + 64) 3001 - yy) = min (64 * w + 64) 3001 by omega] at this
  exact ⟨congrArg nI this.1, this.2.1, this.2.2⟩
/-! ===== the reference's rows of booleans ===== -/
def bz (x : Int32) (P : Prop) : Prop := (x = nI 1 ∧ P) ∨ (x = nI 0 ∧ ¬ P)
theorem bz_t {x : Int32} {P : Prop} (h : bz x P) (h2 : ¬ x.toInt = 0) : P := h.elim (fun q => q.2) (fun q => absurd (by rw [q.1]; decide) h2)
theorem bz_f {x : Int32} {P : Prop} (h : bz x P) (h2 : x.toInt = 0) : ¬ P := h.elim (fun q => absurd h2 (by rw [q.1]; decide)) (fun q => q.2)
theorem bz_nar {x : Int32} {P : Prop} (h : bz x P) : vp_nar .boolean x = x := by rcases h with h | h <;> rw [h.1] <;> rfl
theorem bz_or {x y : Int32} {P R : Prop} (h : bz x P) (h2 : bz y R) : bz (x ||| y) (P ∨ R) := by
  rcases h with ⟨h, p⟩ | ⟨h, p⟩ <;> rcases h2 with ⟨h2, p2⟩ | ⟨h2, p2⟩ <;> rw [h, h2]
  · exact Or.inl ⟨by decide, Or.inl p⟩
  · exact Or.inl ⟨by decide, Or.inl p⟩
  · exact Or.inl ⟨by decide, Or.inr p2⟩
  · exact Or.inr ⟨by decide, fun z => z.elim p p2⟩
theorem bz_cg {x : Int32} {P R : Prop} (h : bz x P) (h2 : P ↔ R) : bz x R := h.elim (fun q => Or.inl ⟨q.1, h2.mp q.2⟩) (fun q => Or.inr ⟨q.1, fun z => q.2 (h2.mpr z)⟩)
def yM (f : Nat → Int32) (P : Nat → Nat → Prop) : Prop := ∀ s y, s < 3 → y ≤ 3000 → bz (f (3001 * s + y)) (P s y)
theorem yM_cg {f : Nat → Int32} {P R : Nat → Nat → Prop} (h : yM f P) (h2 : ∀ s y, s < 3 → y ≤ 3000 → (P s y ↔ R s y)) : yM f R := fun s y hs hy => bz_cg (h s y hs hy) (h2 s y hs hy)
theorem yM_u {f : Nat → Int32} {P : Nat → Nat → Prop} {R : Prop} {x : Int32} {s0 y0 : Nat} (h : yM f P) (hx : bz x R) (hs0 : s0 < 3) (hy0 : y0 ≤ 3000) : yM (upd f (3001 * s0 + y0) (f (3001 * s0 + y0) ||| x)) (fun s y => P s y ∨ (s = s0 ∧ y = y0 ∧ R)) := by
  intro s y hs hy
  by_cases e : s = s0 ∧ y = y0
  · obtain ⟨rfl, rfl⟩ := e
    rw [show upd f (3001 * s + y) (f (3001 * s + y) ||| x) (3001 * s + y) = f (3001 * s + y) ||| x from pk_us]
    exact bz_cg (bz_or (h s y hs hy) hx) ⟨fun z => z.elim Or.inl (fun z => Or.inr ⟨rfl, rfl, z⟩), fun z => z.elim Or.inl (fun z => Or.inr z.2.2)⟩
  · rw [show upd f (3001 * s0 + y0) (f (3001 * s0 + y0) ||| x) (3001 * s + y) = f (3001 * s + y) from pk_un (by omega)]
    exact bz_cg (h s y hs hy) ⟨Or.inl, fun z => z.elim id (fun z => absurd ⟨z.1, z.2.1⟩ e)⟩
theorem yM_nar {f : Nat → Int32} {P : Nat → Nat → Prop} (h : yM f P) {k : Nat} (hk : k < 9003) : vp_nar .boolean (f k) = f k := by
  have q := h (k / 3001) (k % 3001) (by omega) (by omega)
  rw [show 3001 * (k / 3001) + k % 3001 = k by omega] at q
  exact bz_nar q
section YP
variable {t tx le so nx : Nat → Int32} {ow : Nat → Nat} {L nv : Nat}
def yp1 (t tx le so nx : Nat → Int32) (ow : Nat → Nat) (L nv i v s y : Nat) : Prop := ∃ w, w < v ∧ fitP t tx le L i w ∧ tn (so w) = s ∧ ow w ≤ y ∧ ∃ b, b < 4 ∧ mcy nx so b w ∧ yr t tx le so nx ow L nv i b (y - ow w)
def yp2 (t tx le so nx : Nat → Int32) (ow : Nat → Nat) (L nv i v k s y : Nat) : Prop := yp1 t tx le so nx ow L nv i v s y ∨ (tn (so v) = s ∧ ow v ≤ y ∧ ∃ b, b < k ∧ mcy nx so b v ∧ yr t tx le so nx ow L nv i b (y - ow v))
def yp3 (t tx le so nx : Nat → Int32) (ow : Nat → Nat) (L nv i v k z s y : Nat) : Prop := yp2 t tx le so nx ow L nv i v k s y ∨ (tn (so v) = s ∧ ow v ≤ y ∧ y < z ∧ mcy nx so k v ∧ yr t tx le so nx ow L nv i k (y - ow v))
theorem yr_3 (hs : okV so nv 0 2) {i y : Nat} (h : ¬ i = 0) : ¬ yr t tx le so nx ow L nv i 3 y := by
  obtain ⟨k, rfl⟩ : ∃ k, i = k + 1 := ⟨i - 1, by omega⟩
  rintro ⟨v, hv, _, h3, _⟩
  have := (hs v hv).2.2
  omega
theorem yr_0 {s y : Nat} (h : ¬ s = 3) : ¬ yr t tx le so nx ow L nv 0 s y := fun z => h z.1
theorem yp1_0 {f : Nat → Int32} {i : Nat} (h : ∀ j, j < 9003 → f j = nI 0) : yM f (yp1 t tx le so nx ow L nv i 0) := fun s y hs hy => Or.inr ⟨h _ (by omega), fun ⟨w, hw, _⟩ => absurd hw (Nat.not_lt_zero w)⟩
theorem yp1_n {f : Nat → Int32} {i v : Nat} (h : yM f (yp1 t tx le so nx ow L nv i v)) (hf : ¬ fitP t tx le L i v) : yM f (yp1 t tx le so nx ow L nv i (v + 1)) := yM_cg h (fun s y _ _ => ⟨fun ⟨w, hw, z⟩ => ⟨w, by omega, z⟩, fun ⟨w, hw, z1, z⟩ => ⟨w, by
  by_cases e : w = v
  · subst e; exact absurd z1 hf
  · omega, z1, z⟩⟩)
theorem yp2_0 {f : Nat → Int32} {i v : Nat} (h : yM f (yp1 t tx le so nx ow L nv i v)) : yM f (yp2 t tx le so nx ow L nv i v 0) := yM_cg h (fun s y _ _ => ⟨Or.inl, fun z => z.elim id (fun ⟨_, _, b, hb, _⟩ => absurd hb (Nat.not_lt_zero b))⟩)
theorem yp2_4 {f : Nat → Int32} {i v : Nat} (h : yM f (yp2 t tx le so nx ow L nv i v 4)) (hf : fitP t tx le L i v) : yM f (yp1 t tx le so nx ow L nv i (v + 1)) := yM_cg h (fun s y _ _ => ⟨fun z => z.elim (fun ⟨w, hw, z⟩ => ⟨w, by omega, z⟩) (fun z => ⟨v, by omega, hf, z⟩), fun ⟨w, hw, z1, z⟩ => by
  by_cases e : w = v
  · subst e; exact Or.inr z
  · exact Or.inl ⟨w, by omega, z1, z⟩⟩)
theorem yp2_n {f : Nat → Int32} {i v k : Nat} (h : yM f (yp2 t tx le so nx ow L nv i v k)) (hn : ∀ y, ¬ (mcy nx so k v ∧ yr t tx le so nx ow L nv i k y)) : yM f (yp2 t tx le so nx ow L nv i v (k + 1)) := yM_cg h (fun s y _ _ => ⟨fun z => z.elim Or.inl (fun ⟨z1, z2, b, hb, z⟩ => Or.inr ⟨z1, z2, b, by omega, z⟩), fun z => z.elim Or.inl (fun ⟨z1, z2, b, hb, z9⟩ => Or.inr ⟨z1, z2, b, by
  by_cases e : b = k
  · subst e; exact absurd z9 (hn _)
  · omega, z9⟩)⟩)
theorem yp3_0 {f : Nat → Int32} {i v k : Nat} (h : yM f (yp2 t tx le so nx ow L nv i v k)) : yM f (yp3 t tx le so nx ow L nv i v k (ow v)) := yM_cg h (fun s y _ _ => ⟨Or.inl, fun z => z.elim id (fun z => absurd z.2.2.1 (by omega))⟩)
theorem yp3_e {f : Nat → Int32} {i v k z : Nat} (h : yM f (yp3 t tx le so nx ow L nv i v k z)) (hm : mcy nx so k v) (hz : 3000 < z) : yM f (yp2 t tx le so nx ow L nv i v (k + 1)) := yM_cg h (fun s y _ hy => by
  constructor
  · rintro ((q | ⟨h1, h2, b, hb, q⟩) | ⟨h1, h2, _, h4, h5⟩)
    · exact Or.inl q
    · exact Or.inr ⟨h1, h2, b, by omega, q⟩
    · exact Or.inr ⟨h1, h2, k, by omega, h4, h5⟩
  · rintro (q | ⟨h1, h2, b, hb, q⟩)
    · exact Or.inl (Or.inl q)
    · by_cases e : b = k
      · subst e; exact Or.inr ⟨h1, h2, by omega, q⟩
      · exact Or.inl (Or.inr ⟨h1, h2, b, by omega, q⟩))
theorem yp3_s {f : Nat → Int32} {x : Int32} {i v k z : Nat} (h : yM f (yp3 t tx le so nx ow L nv i v k z)) (hm : mcy nx so k v) (hz : z ≤ 3000) (hw : ow v ≤ z) (hs : tn (so v) < 3) (hx : bz x (yr t tx le so nx ow L nv i k (z - ow v))) : yM (upd f (3001 * tn (so v) + z) (f (3001 * tn (so v) + z) ||| x)) (yp3 t tx le so nx ow L nv i v k (z + 1)) := yM_cg (yM_u h hx hs hz) (fun s y _ hy => by
  constructor
  · rintro ((q | ⟨h1, h2, h3, h4⟩) | ⟨rfl, rfl, q⟩)
    · exact Or.inl q
    · exact Or.inr ⟨h1, h2, by omega, h4⟩
    · exact Or.inr ⟨rfl, hw, by omega, hm, q⟩
  · rintro (q | ⟨h1, h2, h3, h4, h5⟩)
    · exact Or.inl (Or.inl q)
    · by_cases e : y = z
      · subst e; exact Or.inr ⟨h1.symm, rfl, h5⟩
      · exact Or.inl (Or.inr ⟨h1, h2, by omega, h4, h5⟩))
end YP
