/-! ===== lines by two customs, the reference's walk: what stands on its stack ===== -/
section DB
variable {fe so nx : Nat → Int32} {o1 o2 : Nat → Nat} {nv ft y z : Nat} {p q : Nat → Nat}
def sF (fe : Nat → Int32) (p : Nat → Nat) (ft : Nat) : Nat → Nat
  | 0 => ft
  | l + 1 => sF fe p ft l - tn (fe (p l))
def sY (o : Nat → Nat) (p : Nat → Nat) (y : Nat) : Nat → Nat
  | 0 => y
  | l + 1 => sY o p y l - o (p l)
def sS (so : Nat → Int32) (p : Nat → Nat) : Nat → Nat
  | 0 => 3
  | l + 1 => tn (so (p l))
def rS (fe so nx : Nat → Int32) (o1 o2 : Nat → Nat) (nv ft y z : Nat) (p : Nat → Nat) : Nat → Nat
  | 0 => 0
  | l + 1 => rS fe so nx o1 o2 nv ft y z p l + dsq fe so nx o1 o2 (dwy fe so nx o1 o2 nv) (sF fe p ft l) (sS so p l) (sY o1 p y l) (sY o2 p z l) (p l)
def okL (fe so nx : Nat → Int32) (o1 o2 : Nat → Nat) (nv ft y z : Nat) (p : Nat → Nat) (l : Nat) : Prop := p l < nv ∧ mcy nx so (sS so p l) (p l) ∧ tn (fe (p l)) < sF fe p ft l ∧ o1 (p l) ≤ sY o1 p y l ∧ o2 (p l) ≤ sY o2 p z l
def dI (fe so nx : Nat → Int32) (o1 o2 : Nat → Nat) (nv ft y z : Nat) (many fa aa ba cn : Nat) (p : Nat → Nat) : Prop :=
  (many = 0 ∧ cn = dwy fe so nx o1 o2 nv ft 3 y z) ∨ (1 ≤ many ∧ fa + sF fe p ft (many - 1) = ft ∧ aa + sY o1 p y (many - 1) = y ∧ ba + sY o2 p z (many - 1) = z ∧ (∀ l, l + 1 < many → okL fe so nx o1 o2 nv ft y z p l) ∧ p (many - 1) ≤ nv ∧ cn = rS fe so nx o1 o2 nv ft y z p many)
def pu (p : Nat → Nat) (k x : Nat) : Nat → Nat := fun j => if j = k then x else p j
theorem pu_s (p : Nat → Nat) (k x : Nat) : pu p k x k = x := if_pos rfl
theorem pu_n {p : Nat → Nat} {k x j : Nat} (h : j ≠ k) : pu p k x j = p j := if_neg h
theorem sF_cg : ∀ {l : Nat}, (∀ j, j < l → p j = q j) → sF fe p ft l = sF fe q ft l
  | 0, _ => rfl
  | l + 1, h => by
    show sF fe p ft l - tn (fe (p l)) = sF fe q ft l - tn (fe (q l))
    rw [sF_cg (fun j hj => h j (by omega)), h l (by omega)]
theorem sY_cg {o : Nat → Nat} : ∀ {l : Nat}, (∀ j, j < l → p j = q j) → sY o p y l = sY o q y l
  | 0, _ => rfl
  | l + 1, h => by
    show sY o p y l - o (p l) = sY o q y l - o (q l)
    rw [sY_cg (fun j hj => h j (by omega)), h l (by omega)]
theorem sS_cg : ∀ {l : Nat}, (∀ j, j < l → p j = q j) → sS so p l = sS so q l
  | 0, _ => rfl
  | l + 1, h => by
    show tn (so (p l)) = tn (so (q l))
    rw [h l (by omega)]
theorem rS_cg : ∀ {l : Nat}, (∀ j, j < l → p j = q j) → rS fe so nx o1 o2 nv ft y z p l = rS fe so nx o1 o2 nv ft y z q l
  | 0, _ => rfl
  | l + 1, h => by
    have h2 : ∀ j, j < l → p j = q j := fun j hj => h j (by omega)
    show rS fe so nx o1 o2 nv ft y z p l + dsq fe so nx o1 o2 (dwy fe so nx o1 o2 nv) (sF fe p ft l) (sS so p l) (sY o1 p y l) (sY o2 p z l) (p l) = rS fe so nx o1 o2 nv ft y z q l + dsq fe so nx o1 o2 (dwy fe so nx o1 o2 nv) (sF fe q ft l) (sS so q l) (sY o1 q y l) (sY o2 q z l) (q l)
    rw [rS_cg h2, sF_cg h2, sS_cg h2, sY_cg (o := o1) h2, sY_cg (o := o2) h2, h l (by omega)]
theorem okL_cg {l : Nat} (h : ∀ j, j < l + 1 → p j = q j) (k : okL fe so nx o1 o2 nv ft y z p l) : okL fe so nx o1 o2 nv ft y z q l := by
  have h2 : ∀ j, j < l → p j = q j := fun j hj => h j (by omega)
  unfold okL at k ⊢
  rw [← sF_cg h2, ← sS_cg h2, ← sY_cg (o := o1) h2, ← sY_cg (o := o2) h2, ← h l (by omega)]
  exact k
theorem sF_b (hfe : okV fe nv 1 3) (hft : 1 ≤ ft) : ∀ t, (∀ l, l < t → okL fe so nx o1 o2 nv ft y z p l) → sF fe p ft t + t ≤ ft ∧ 1 ≤ sF fe p ft t
  | 0, _ => ⟨Nat.le_refl _, hft⟩
  | t + 1, h => by
    have h1 := sF_b hfe hft t (fun l hl => h l (by omega))
    have h2 := h t (by omega)
    have h3 := hfe _ h2.1
    have h4 := h2.2.2.1
    show sF fe p ft t - tn (fe (p t)) + (t + 1) ≤ ft ∧ 1 ≤ sF fe p ft t - tn (fe (p t))
    omega
theorem dI_0 : dI fe so nx o1 o2 nv ft y z 1 0 0 0 0 (fun _ => 0) := Or.inr ⟨Nat.le_refl _, Nat.zero_add _, Nat.zero_add _, Nat.zero_add _, fun l hl => absurd hl (by omega), Nat.zero_le _, rfl⟩
theorem dI_x {many fa aa ba cn : Nat} (h : dI fe so nx o1 o2 nv ft y z many fa aa ba cn p) (h2 : many ≤ 0) : cn = dwy fe so nx o1 o2 nv ft 3 y z := h.elim (fun k => k.2) (fun k => absurd k.1 (by omega))
theorem dI_b {many fa aa ba cn : Nat} (h : dI fe so nx o1 o2 nv ft y z many fa aa ba cn p) (h2 : 1 ≤ many) (hfe : okV fe nv 1 3) (hso : okV so nv 0 2) (hft : 1 ≤ ft) : many ≤ ft ∧ p (many - 1) ≤ nv ∧ fa + sF fe p ft (many - 1) = ft ∧ aa + sY o1 p y (many - 1) = y ∧ ba + sY o2 p z (many - 1) = z ∧ sF fe p ft (many - 1) + many ≤ ft + 1 ∧ sS so p (many - 1) ≤ 3 := by
  rcases h with k | ⟨_, h3, h4, h5, h6, h7, h8⟩
  · exact absurd k.1 (by omega)
  · have := sF_b hfe hft (many - 1) (fun l hl => h6 l (by omega))
    refine ⟨by omega, h7, h3, h4, h5, by omega, ?_⟩
    obtain ⟨t, rfl⟩ : ∃ t, many = t + 1 := ⟨many - 1, by omega⟩
    cases t with
    | zero => exact Nat.le_refl _
    | succ t =>
      have := (hso _ (h6 t (by omega)).1).2.2
      show tn (so (p t)) ≤ 3
      omega
theorem dI_2 {many fa aa ba cn : Nat} (h : dI fe so nx o1 o2 nv ft y z many fa aa ba cn p) (h2 : 2 ≤ many) : p (many - 2) < nv := by
  rcases h with k | ⟨_, h3, h4, h5, h6, h7, h8⟩
  · exact absurd k.1 (by omega)
  · exact (h6 (many - 2) (by omega)).1
theorem dI_q {many fa aa ba cn : Nat} (h : dI fe so nx o1 o2 nv ft y z many fa aa ba cn p) (h2 : 2 ≤ many) : p (many - 1 - 1) < nv ∧ tn (fe (p (many - 1 - 1))) ≤ fa ∧ o1 (p (many - 1 - 1)) ≤ aa ∧ o2 (p (many - 1 - 1)) ≤ ba := by
  rcases h with k | ⟨_, h3, h4, h5, h6, h7, h8⟩
  · exact absurd k.1 (by omega)
  · obtain ⟨t, rfl⟩ : ∃ t, many = t + 2 := ⟨many - 2, by omega⟩
    obtain ⟨k1, k2, k3, k4, k5⟩ := h6 t (by omega)
    have a1 : ∀ j, j < t → okL fe so nx o1 o2 nv ft y z p j := fun j hj => h6 j (by omega)
    have b1 : ∀ l, sF fe p ft l ≤ ft := fun l => by
      induction l with
      | zero => exact Nat.le_refl _
      | succ l ih => exact Nat.le_trans (Nat.sub_le _ _) ih
    have b2 : ∀ (o : Nat → Nat) (y : Nat) l, sY o p y l ≤ y := fun o y l => by
      induction l with
      | zero => exact Nat.le_refl _
      | succ l ih => exact Nat.le_trans (Nat.sub_le _ _) ih
    have b3 := b1 t
    have b4 := b2 o1 y t
    have b5 := b2 o2 z t
    have h3' : fa + (sF fe p ft t - tn (fe (p t))) = ft := h3
    have h4' : aa + (sY o1 p y t - o1 (p t)) = y := h4
    have h5' : ba + (sY o2 p z t - o2 (p t)) = z := h5
    show p t < nv ∧ tn (fe (p t)) ≤ fa ∧ o1 (p t) ≤ aa ∧ o2 (p t) ≤ ba
    refine ⟨k1, by omega, by omega, by omega⟩
abbrev dT (fe so nx : Nat → Int32) (o1 o2 : Nat → Nat) (nv ft y z : Nat) (p : Nat → Nat) (l : Nat) : Nat := dst fe so nx o1 o2 (dwy fe so nx o1 o2 nv) (sF fe p ft l) (sS so p l) (sY o1 p y l) (sY o2 p z l) (p l)
theorem dI_l {many fa aa ba cn x : Nat} (h : dI fe so nx o1 o2 nv ft y z many fa aa ba cn p) (h2 : 1 ≤ many) (hv : p (many - 1) < nv) (hx : dT fe so nx o1 o2 nv ft y z p (many - 1) = x) : dI fe so nx o1 o2 nv ft y z many fa aa ba (cn + x) (pu p (many - 1) (p (many - 1) + 1)) := by
  rcases h with k | ⟨_, h3, h4, h5, h6, h7, h8⟩
  · exact absurd k.1 (by omega)
  · obtain ⟨t, rfl⟩ : ∃ t, many = t + 1 := ⟨many - 1, by omega⟩
    have e : ∀ j, j < t → p j = pu p t (p t + 1) j := fun j hj => (pu_n (by omega)).symm
    refine Or.inr ⟨h2, ?_, ?_, ?_, fun l hl => okL_cg (fun j hj => e j (by omega)) (h6 l hl), ?_, ?_⟩
    · show fa + sF fe (pu p t (p t + 1)) ft t = ft
      rw [← sF_cg e]; exact h3
    · show aa + sY o1 (pu p t (p t + 1)) y t = y
      rw [← sY_cg e]; exact h4
    · show ba + sY o2 (pu p t (p t + 1)) z t = z
      rw [← sY_cg e]; exact h5
    · show pu p t (p t + 1) t ≤ nv
      rw [pu_s]; exact hv
    · show cn + x = rS fe so nx o1 o2 nv ft y z (pu p t (p t + 1)) t + dsq fe so nx o1 o2 (dwy fe so nx o1 o2 nv) (sF fe (pu p t (p t + 1)) ft t) (sS so (pu p t (p t + 1)) t) (sY o1 (pu p t (p t + 1)) y t) (sY o2 (pu p t (p t + 1)) z t) (pu p t (p t + 1) t)
      rw [← rS_cg e, ← sF_cg e, ← sS_cg e, ← sY_cg (o := o1) e, ← sY_cg (o := o2) e, pu_s, h8, ← hx]
      exact Nat.add_assoc _ _ _
theorem dI_d {many fa aa ba cn : Nat} (h : dI fe so nx o1 o2 nv ft y z many fa aa ba cn p) (h2 : 1 ≤ many) (hv : p (many - 1) < nv) (hm : mcy nx so (sS so p (many - 1)) (p (many - 1))) (hf : tn (fe (p (many - 1))) < sF fe p ft (many - 1)) (ha : o1 (p (many - 1)) ≤ sY o1 p y (many - 1)) (hb : o2 (p (many - 1)) ≤ sY o2 p z (many - 1)) : dI fe so nx o1 o2 nv ft y z (many + 1) (fa + tn (fe (p (many - 1)))) (aa + o1 (p (many - 1))) (ba + o2 (p (many - 1))) cn (pu p many 0) := by
  rcases h with k | ⟨_, h3, h4, h5, h6, h7, h8⟩
  · exact absurd k.1 (by omega)
  · obtain ⟨t, rfl⟩ : ∃ t, many = t + 1 := ⟨many - 1, by omega⟩
    have e : ∀ j, j < t + 1 → p j = pu p (t + 1) 0 j := fun j hj => (pu_n (by omega)).symm
    have h3' : fa + sF fe p ft t = ft := h3
    have h4' : aa + sY o1 p y t = y := h4
    have h5' : ba + sY o2 p z t = z := h5
    have hf' : tn (fe (p t)) < sF fe p ft t := hf
    have ha' : o1 (p t) ≤ sY o1 p y t := ha
    have hb' : o2 (p t) ≤ sY o2 p z t := hb
    refine Or.inr ⟨by omega, ?_, ?_, ?_, fun l hl => okL_cg (fun j hj => e j (by omega)) ?_, ?_, ?_⟩
    · show fa + tn (fe (p t)) + sF fe (pu p (t + 1) 0) ft (t + 1) = ft
      rw [← sF_cg e]; show fa + tn (fe (p t)) + (sF fe p ft t - tn (fe (p t))) = ft; omega
    · show aa + o1 (p t) + sY o1 (pu p (t + 1) 0) y (t + 1) = y
      rw [← sY_cg e]; show aa + o1 (p t) + (sY o1 p y t - o1 (p t)) = y; omega
    · show ba + o2 (p t) + sY o2 (pu p (t + 1) 0) z (t + 1) = z
      rw [← sY_cg e]; show ba + o2 (p t) + (sY o2 p z t - o2 (p t)) = z; omega
    · by_cases c : l = t
      · subst c; exact ⟨hv, hm, hf, ha, hb⟩
      · exact h6 l (by omega)
    · show pu p (t + 1) 0 (t + 1) ≤ nv
      rw [pu_s]; exact Nat.zero_le _
    · show cn = rS fe so nx o1 o2 nv ft y z (pu p (t + 1) 0) (t + 1) + dsq fe so nx o1 o2 (dwy fe so nx o1 o2 nv) (sF fe (pu p (t + 1) 0) ft (t + 1)) (sS so (pu p (t + 1) 0) (t + 1)) (sY o1 (pu p (t + 1) 0) y (t + 1)) (sY o2 (pu p (t + 1) 0) z (t + 1)) (pu p (t + 1) 0 (t + 1))
      rw [← rS_cg e, pu_s]; exact h8
theorem dI_z {many fa aa ba cn fa2 aa2 ba2 : Nat} {q : Nat → Nat} (h : dI fe so nx o1 o2 nv ft y z many fa aa ba cn p) (h2 : many = 1) (hv : p (many - 1) = nv) (hfe : okV fe nv 1 3) (hft : 1 ≤ ft) : dI fe so nx o1 o2 nv ft y z (many - 1) fa2 aa2 ba2 cn q := by
  rcases h with k | ⟨_, h3, h4, h5, h6, h7, h8⟩
  · exact absurd k.1 (by omega)
  · subst h2
    refine Or.inl ⟨rfl, ?_⟩
    rw [h8, ← dwy_s hfe hft]
    show 0 + dsq fe so nx o1 o2 (dwy fe so nx o1 o2 nv) ft 3 y z (p 0) = _
    rw [Nat.zero_add, show p 0 = nv from hv]
theorem dI_p {many fa aa ba cn : Nat} (h : dI fe so nx o1 o2 nv ft y z many fa aa ba cn p) (h2 : 2 ≤ many) (hv : p (many - 1) = nv) (hfe : okV fe nv 1 3) : dI fe so nx o1 o2 nv ft y z (many - 1) (fa - tn (fe (p (many - 1 - 1)))) (aa - o1 (p (many - 1 - 1))) (ba - o2 (p (many - 1 - 1))) cn (pu p (many - 1 - 1) (p (many - 1 - 1) + 1)) := by
  obtain ⟨k6, k7, k8, k9⟩ := dI_q h h2
  rcases h with k | ⟨_, h3, h4, h5, h6, h7, h8⟩
  · exact absurd k.1 (by omega)
  · obtain ⟨t, rfl⟩ : ∃ t, many = t + 2 := ⟨many - 2, by omega⟩
    obtain ⟨k1, k2, k3, k4, k5⟩ := h6 t (by omega)
    have e : ∀ j, j < t → p j = pu p t (p t + 1) j := fun j hj => (pu_n (by omega)).symm
    have h3' : fa + (sF fe p ft t - tn (fe (p t))) = ft := h3
    have h4' : aa + (sY o1 p y t - o1 (p t)) = y := h4
    have h5' : ba + (sY o2 p z t - o2 (p t)) = z := h5
    have k7' : tn (fe (p t)) ≤ fa := k7
    have k8' : o1 (p t) ≤ aa := k8
    have k9' : o2 (p t) ≤ ba := k9
    refine Or.inr ⟨by omega, ?_, ?_, ?_, fun l hl => okL_cg (fun j hj => e j (by omega)) (h6 l (by omega)), ?_, ?_⟩
    · show fa - tn (fe (p t)) + sF fe (pu p t (p t + 1)) ft t = ft
      rw [← sF_cg e]; omega
    · show aa - o1 (p t) + sY o1 (pu p t (p t + 1)) y t = y
      rw [← sY_cg e]; omega
    · show ba - o2 (p t) + sY o2 (pu p t (p t + 1)) z t = z
      rw [← sY_cg e]; omega
    · show pu p t (p t + 1) t ≤ nv
      rw [pu_s]; exact k1
    · show cn = rS fe so nx o1 o2 nv ft y z (pu p t (p t + 1)) t + dsq fe so nx o1 o2 (dwy fe so nx o1 o2 nv) (sF fe (pu p t (p t + 1)) ft t) (sS so (pu p t (p t + 1)) t) (sY o1 (pu p t (p t + 1)) y t) (sY o2 (pu p t (p t + 1)) z t) (pu p t (p t + 1) t)
      rw [← rS_cg e, ← sF_cg e, ← sS_cg e, ← sY_cg (o := o1) e, ← sY_cg (o := o2) e, pu_s, h8]
      have e1 : dT fe so nx o1 o2 nv ft y z p t = dsq fe so nx o1 o2 (dwy fe so nx o1 o2 nv) (sF fe p ft (t + 1)) (sS so p (t + 1)) (sY o1 p y (t + 1)) (sY o2 p z (t + 1)) nv := by
        rw [dwy_s hfe (show 1 ≤ sF fe p ft (t + 1) from show 1 ≤ sF fe p ft t - tn (fe (p t)) by omega)]
        unfold dT dst
        rw [if_pos k2, if_pos ⟨by omega, k4, k5⟩]
        rfl
      show rS fe so nx o1 o2 nv ft y z p t + _ + dsq fe so nx o1 o2 (dwy fe so nx o1 o2 nv) (sF fe p ft (t + 1)) (sS so p (t + 1)) (sY o1 p y (t + 1)) (sY o2 p z (t + 1)) (p (t + 1)) = _
      rw [show p (t + 1) = nv from hv, ← e1]
      exact Nat.add_assoc _ _ _
theorem dT_n {l : Nat} (h : ¬ mcy nx so (sS so p l) (p l)) : dT fe so nx o1 o2 nv ft y z p l = 0 := by unfold dT dst; rw [if_neg h]
theorem dT_m {l : Nat} (h : ¬ (tn (fe (p l)) ≤ sF fe p ft l ∧ o1 (p l) ≤ sY o1 p y l ∧ o2 (p l) ≤ sY o2 p z l)) : dT fe so nx o1 o2 nv ft y z p l = 0 := by
  unfold dT dst
  rw [if_neg h]; split <;> rfl
theorem dT_l {l : Nat} (hm : mcy nx so (sS so p l) (p l)) (hf : tn (fe (p l)) = sF fe p ft l) (ha : o1 (p l) ≤ sY o1 p y l) (hb : o2 (p l) ≤ sY o2 p z l) : dT fe so nx o1 o2 nv ft y z p l = if sY o1 p y l - o1 (p l) = 0 ∧ sY o2 p z l - o2 (p l) = 0 then 1 else 0 := by
  unfold dT dst
  rw [if_pos hm, if_pos ⟨by omega, ha, hb⟩, hf, Nat.sub_self, dwy_0]
/-- how much is left to do -/
def mzl (p : Nat → Nat) (nv : Nat) : Nat → Nat
  | 0 => 0
  | l + 1 => mzl p nv l + (nv - p l - 1) * 12 ^ (5 - l)
def mz (p : Nat → Nat) (nv many : Nat) : Nat := if many = 0 then 0 else mzl p nv (many - 1) + (nv - p (many - 1)) * 12 ^ (6 - many) + many
theorem mzl_cg : ∀ {l : Nat}, (∀ j, j < l → p j = q j) → mzl p nv l = mzl q nv l
  | 0, _ => rfl
  | l + 1, h => by
    show mzl p nv l + (nv - p l - 1) * 12 ^ (5 - l) = mzl q nv l + (nv - q l - 1) * 12 ^ (5 - l)
    rw [mzl_cg (fun j hj => h j (by omega)), h l (by omega)]
theorem mz_s (p : Nat → Nat) (nv t : Nat) : mz p nv (t + 1) = mzl p nv t + (nv - p t) * 12 ^ (5 - t) + (t + 1) := by
  unfold mz; rw [if_neg (by omega), show 6 - (t + 1) = 5 - t by omega]; rfl
theorem mz_l {many : Nat} (h : 1 ≤ many) (hv : p (many - 1) < nv) : mz (pu p (many - 1) (p (many - 1) + 1)) nv many < mz p nv many := by
  obtain ⟨t, rfl⟩ : ∃ t, many = t + 1 := ⟨many - 1, by omega⟩
  show mz (pu p t (p t + 1)) nv (t + 1) < _
  rw [mz_s, mz_s, pu_s, ← mzl_cg (p := p) (fun j hj => (pu_n (by omega)).symm)]
  have : (nv - (p t + 1)) * 12 ^ (5 - t) < (nv - p t) * 12 ^ (5 - t) := Nat.mul_lt_mul_of_pos_right (show nv - (p t + 1) < nv - p t by have : p t < nv := hv; omega) (Nat.pow_pos (by decide))
  omega
theorem mz_d {many : Nat} (h : 1 ≤ many) (h5 : many ≤ 5) (hn : nv ≤ 10) (hv : p (many - 1) < nv) : mz (pu p many 0) nv (many + 1) < mz p nv many := by
  obtain ⟨t, rfl⟩ : ∃ t, many = t + 1 := ⟨many - 1, by omega⟩
  have hv' : p t < nv := hv
  rw [mz_s, mz_s, pu_s, ← mzl_cg (p := p) (fun j hj => (pu_n (by omega)).symm)]
  show mzl p nv t + (nv - p t - 1) * 12 ^ (5 - t) + (nv - 0) * 12 ^ (5 - (t + 1)) + (t + 1 + 1) < mzl p nv t + (nv - p t) * 12 ^ (5 - t) + (t + 1)
  obtain ⟨k, hk⟩ : ∃ k, 5 - t = k + 1 := ⟨4 - t, by omega⟩
  rw [show 5 - (t + 1) = k by omega, hk, Nat.pow_succ]
  obtain ⟨d, hd⟩ : ∃ d, nv - p t = d + 1 := ⟨nv - p t - 1, by omega⟩
  rw [hd, Nat.add_sub_cancel, Nat.add_mul, Nat.one_mul, Nat.sub_zero]
  have h1 : 1 ≤ 12 ^ k := Nat.pow_pos (by decide)
  have h2 : nv * 12 ^ k ≤ 10 * 12 ^ k := Nat.mul_le_mul_right _ hn
  omega
theorem mz_p {many : Nat} (h : 2 ≤ many) (hv : p (many - 1) = nv) (hv2 : p (many - 1 - 1) < nv) : mz (pu p (many - 1 - 1) (p (many - 1 - 1) + 1)) nv (many - 1) < mz p nv many := by
  obtain ⟨t, rfl⟩ : ∃ t, many = t + 2 := ⟨many - 2, by omega⟩
  show mz (pu p t (p t + 1)) nv (t + 1) < mz p nv (t + 1 + 1)
  rw [mz_s, mz_s, pu_s, ← mzl_cg (p := p) (fun j hj => (pu_n (by omega)).symm)]
  show mzl p nv t + (nv - (p t + 1)) * 12 ^ (5 - t) + (t + 1) < mzl p nv t + (nv - p t - 1) * 12 ^ (5 - t) + (nv - p (t + 1)) * 12 ^ (5 - (t + 1)) + (t + 1 + 1)
  rw [show nv - (p t + 1) = nv - p t - 1 by omega]
  omega
theorem mz_z {many : Nat} (h : many = 1) : mz q nv (many - 1) < mz p nv many := by
  subst h
  show mz q nv 0 < mz p nv (0 + 1)
  rw [mz_s]; unfold mz; rw [if_pos rfl]; omega
theorem hu_l {u : Nat → Int32} {many k x : Nat} (h : ∀ l, l < many → u l = nI (p l)) : ∀ l, l < many → upd u k (nI x) l = nI (pu p k x l) := by
  intro l hl
  by_cases e : l = k
  · subst e; rw [pu_s]; exact pk_us
  · rw [pu_n e, show upd u k (nI x) l = u l from pk_un e]; exact h l hl
theorem hu_d {u : Nat → Int32} {many x : Nat} (h : ∀ l, l < many → u l = nI (p l)) : ∀ l, l < many + 1 → upd u many (nI x) l = nI (pu p many x l) := by
  intro l hl
  by_cases e : l = many
  · subst e; rw [pu_s]; exact pk_us
  · rw [pu_n e, show upd u many (nI x) l = u l from pk_un e]; exact h l (by omega)
end DB
