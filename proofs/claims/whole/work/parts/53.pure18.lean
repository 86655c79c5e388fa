/-- what a vocable v of sum b reaches, from the first places of the order -/
def rwf (nr r : Nat → Int64) (so nx : Nat → Int32) (b v : Nat) : Nat → Nat → Int64
  | 0 => nr
  | k + 1 => if mcy nx so k v then asf (rwf nr r so nx b v k) r (k * 47) (tn (so v) * 47) b 47 else rwf nr r so nx b v k
theorem rwf_y {nr r : Nat → Int64} {so nx : Nat → Int32} {b v k : Nat} (h : mcy nx so k v) : asf (rwf nr r so nx b v k) r (k * 47) (tn (so v) * 47) b 47 = rwf nr r so nx b v (k + 1) := by
  show _ = (if mcy nx so k v then _ else _); rw [if_pos h]
theorem rwf_n {nr r : Nat → Int64} {so nx : Nat → Int32} {b v k : Nat} (h : ¬ mcy nx so k v) : rwf nr r so nx b v k = rwf nr r so nx b v (k + 1) := by
  show _ = (if mcy nx so k v then _ else _); rw [if_neg h]
/-- what a part lets be reached, by the first vocables -/
def rpf (u0 r : Nat → Int64) (t tx le so nx : Nat → Int32) (L i : Nat) (ow : Nat → Nat) : Nat → Nat → Int64
  | 0 => u0
  | v + 1 => if fitP t tx le L i v then rwf (rpf u0 r t tx le so nx L i ow v) r so nx (ow v) v 4 else rpf u0 r t tx le so nx L i ow v
theorem rpf_y {u0 r : Nat → Int64} {t tx le so nx : Nat → Int32} {L i v : Nat} {ow : Nat → Nat} (h : fitP t tx le L i v) : rwf (rpf u0 r t tx le so nx L i ow v) r so nx (ow v) v 4 = rpf u0 r t tx le so nx L i ow (v + 1) := by
  show _ = (if fitP t tx le L i v then _ else _); rw [if_pos h]
theorem rpf_n {u0 r : Nat → Int64} {t tx le so nx : Nat → Int32} {L i v : Nat} {ow : Nat → Nat} (h : ¬ fitP t tx le L i v) : rpf u0 r t tx le so nx L i ow v = rpf u0 r t tx le so nx L i ow (v + 1) := by
  show _ = (if fitP t tx le L i v then _ else _); rw [if_neg h]
