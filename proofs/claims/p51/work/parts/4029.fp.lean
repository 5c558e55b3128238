/-! quotients of naturals are no NaN, and equal to themselves -/
theorem cmp_self (x : Int) : compare x x = .eq := by simp [compare, compareOfLessAndEq]
theorem ord_self {d : FP.Core.Datum} (h : d ≠ .nan) : FP.Core.order d d = some .eq := by
  cases d with
  | nan => exact absurd rfl h
  | inf s => rw [FP.Core.order, cmp_self]
  | fin s c q => rw [FP.Core.order, cmp_self]
theorem ft_fc64 : FP.Core.b64.tails = 4503599627370496 ∧ FP.Core.b64.exps = 2048 ∧ 2 ^ FP.Core.b64.p = 9007199254740992 ∧ FP.Core.b64.qmin = -1074 ∧ FP.Core.b64.qmax = 971 := by decide +kernel
def wf64 : FP.Core.Datum → Prop
  | .nan => False
  | .inf _ => True
  | .fin _ c q => c < 9007199254740992 ∧ -1074 ≤ q ∧ q ≤ 971
theorem enc64 {d : FP.Core.Datum} (h : wf64 d) : ∃ s e t : Nat, FP.Core.encode FP.Core.b64 d = (s * 2048 + e) * 4503599627370496 + t ∧ s ≤ 1 ∧ t < 4503599627370496 ∧ (e ≤ 2046 ∨ (e = 2047 ∧ t = 0)) ∧ (∀ s' c' q', d = .fin s' c' q' → e ≤ 2046 ∧ (c' ≠ 0 → e ≠ 0 ∨ t ≠ 0)) := by
  obtain ⟨h1, h2, h3, h4, h5⟩ := ft_fc64
  cases d with
  | nan => exact h.elim
  | inf s =>
    refine ⟨s.toNat, 2047, 0, ?_, Bool.toNat_le s, by decide, Or.inr ⟨rfl, rfl⟩, fun _ _ _ e => by cases e⟩
    rw [FP.Core.encode, FP.Core.assemble, h1, h2]
  | fin s c q =>
    obtain ⟨k1, k2, k3⟩ := h
    rw [FP.Core.encode, h1, h4]
    by_cases hc : c < 4503599627370496
    · rw [if_pos hc, FP.Core.assemble, h1, h2]
      exact ⟨s.toNat, 0, c, rfl, Bool.toNat_le s, hc, Or.inl (by omega), fun s' c' q' e => by cases e; exact ⟨by omega, fun h => Or.inr h⟩⟩
    · rw [if_neg hc, FP.Core.assemble, h1, h2]
      exact ⟨s.toNat, (q - -1074).toNat + 1, c - 4503599627370496, rfl, Bool.toNat_le s, by omega, Or.inl (by omega), fun s' c' q' e => by cases e; exact ⟨by omega, fun _ => Or.inl (by omega)⟩⟩
theorem dec64 {s e t : Nat} (ht : t < 4503599627370496) (he : e ≤ 2046) : ∃ s' c' q', FP.Core.decode FP.Core.b64 ((s * 2048 + e) * 4503599627370496 + t) = .fin s' c' q' ∧ ((e ≠ 0 ∨ t ≠ 0) → c' ≠ 0) := by
  obtain ⟨h1, h2, h3, h4, h5⟩ := ft_fc64
  have e1 : FP.Core.fieldE FP.Core.b64 ((s * 2048 + e) * 4503599627370496 + t) = e := by
    unfold FP.Core.fieldE
    rw [h1, h2]
    omega
  have e2 : FP.Core.fieldT FP.Core.b64 ((s * 2048 + e) * 4503599627370496 + t) = t := by
    unfold FP.Core.fieldT
    rw [h1]
    omega
  unfold FP.Core.decode
  rw [e1, e2, h2, if_neg (by omega)]
  by_cases h0 : e = 0
  · rw [if_pos h0]
    exact ⟨_, _, _, rfl, fun h => h.resolve_left (fun q => q h0)⟩
  · rw [if_neg h0, h1]
    exact ⟨_, _, _, rfl, fun _ => by omega⟩
theorem deci64 {s : Nat} : ∃ s', FP.Core.decode FP.Core.b64 ((s * 2048 + 2047) * 4503599627370496 + 0) = .inf s' := by
  obtain ⟨h1, h2, h3, h4, h5⟩ := ft_fc64
  have e1 : FP.Core.fieldE FP.Core.b64 ((s * 2048 + 2047) * 4503599627370496 + 0) = 2047 := by
    unfold FP.Core.fieldE
    rw [h1, h2]
    omega
  have e2 : FP.Core.fieldT FP.Core.b64 ((s * 2048 + 2047) * 4503599627370496 + 0) = 0 := by
    unfold FP.Core.fieldT
    rw [h1]
    omega
  unfold FP.Core.decode
  rw [e1, e2, h2, if_pos (by decide), if_pos rfl]
  exact ⟨_, rfl⟩
theorem nn64 {d : FP.Core.Datum} (h : wf64 d) : FP.Core.decode FP.Core.b64 (FP.Core.encode FP.Core.b64 d) ≠ .nan := by
  obtain ⟨s, e, t, k1, k2, k3, k4, -⟩ := enc64 h
  rw [k1]
  rcases k4 with k4 | ⟨rfl, rfl⟩
  · obtain ⟨s', c', q', h1, -⟩ := dec64 (s := s) k3 k4
    rw [h1]
    exact fun e => by cases e
  · obtain ⟨s', h1⟩ := deci64 (s := s)
    rw [h1]
    exact fun e => by cases e
theorem st64 {s : Bool} {C : Nat} {q : Int} (hq : -1074 ≤ q) : wf64 (FP.Core.settle FP.Core.b64 s C q) := by
  obtain ⟨h1, h2, h3, h4, h5⟩ := ft_fc64
  unfold FP.Core.settle FP.Core.bound
  rw [h3, h5, h1]
  split
  · split
    · rename_i a b; exact ⟨a, hq, b⟩
    · trivial
  · split
    · rename_i a b; exact ⟨by omega, by omega, b⟩
    · trivial
theorem rr64 {s : Bool} {num den : Nat} {e : Int} : wf64 (FP.Core.roundRatio FP.Core.b64 s num den e) := by
  obtain ⟨h1, h2, h3, h4, h5⟩ := ft_fc64
  unfold FP.Core.roundRatio
  split
  · rw [h4]; exact ⟨by decide, by decide, by decide⟩
  · refine st64 ?_
    unfold FP.Core.quantum
    rw [h4]
    exact Int.le_max_left _ _
theorem quo64 {a : FP.Core.Datum} {t : Bool} {d : Nat} {r : Int} (ha : a ≠ .nan) (hd : d ≠ 0) : wf64 (FP.Core.quotient FP.Core.b64 a (.fin t d r)) := by
  cases a with
  | nan => exact absurd rfl ha
  | inf s => rw [FP.Core.quotient]; trivial
  | fin s c q => rw [FP.Core.quotient, if_neg hd]; exact rr64
/-- a natural below the significand's end, as a datum -/
theorem fin64 {n : Nat} (h0 : n ≠ 0) (hn : n < 2 ^ 31) : ∃ c q, FP.Core.roundRatio FP.Core.b64 false n 1 0 = .fin false c q ∧ c ≠ 0 := by
  obtain ⟨h1, h2, h3, h4, h5⟩ := ft_fc64
  have l1 := Nat.log2_self_le h0
  have l2 := Nat.lt_log2_self (n := n)
  have l3 : n.log2 < 31 := (Nat.log2_lt h0).mpr hn
  have lead : FP.Core.leading n 1 = (n.log2 : Int) := by
    unfold FP.Core.leading
    have e0 : ((n.log2 : Int) - ((1 : Nat).log2 : Int)) = (n.log2 : Int) := by
      have : (1 : Nat).log2 = 0 := by decide
      rw [this]; omega
    simp only [e0]
    rw [if_pos]
    have e1 : ((n.log2 : Int)).toNat = n.log2 := by omega
    have e2 : (-(n.log2 : Int)).toNat = 0 := by omega
    rw [e1, e2]
    omega
  have qu : FP.Core.quantum FP.Core.b64 n 1 0 = (n.log2 : Int) - 52 := by
    unfold FP.Core.quantum
    rw [lead, h4]
    have : (FP.Core.b64.p : Int) = 53 := by decide
    rw [this]
    omega
  unfold FP.Core.roundRatio FP.Core.roundAt
  rw [if_neg h0, qu]
  have eN : FP.Core.unitsNum n 0 ((n.log2 : Int) - 52) = n * 2 ^ (52 - n.log2) := by
    unfold FP.Core.unitsNum
    have : (0 - ((n.log2 : Int) - 52)).toNat = 52 - n.log2 := by omega
    rw [this]
  have eD : FP.Core.unitsDen 1 0 ((n.log2 : Int) - 52) = 1 := by
    unfold FP.Core.unitsDen
    have : ((n.log2 : Int) - 52 - 0).toNat = 0 := by omega
    rw [this]
  have eR : FP.Core.nearest (n * 2 ^ (52 - n.log2)) 1 = n * 2 ^ (52 - n.log2) := by
    unfold FP.Core.nearest
    rw [Nat.mod_one, if_pos (by decide), Nat.div_one]
  have hlt : n * 2 ^ (52 - n.log2) < 9007199254740992 := by
    have h6 : n * 2 ^ (52 - n.log2) < 2 ^ (n.log2 + 1) * 2 ^ (52 - n.log2) := Nat.mul_lt_mul_of_pos_right l2 (Nat.two_pow_pos _)
    rw [← Nat.pow_add, show n.log2 + 1 + (52 - n.log2) = 53 by omega] at h6
    exact h6
  rw [eN, eD, eR]
  unfold FP.Core.settle FP.Core.bound
  rw [h3, if_pos hlt, h5, if_pos (by omega)]
  exact ⟨_, _, rfl, Nat.mul_ne_zero h0 (Nat.ne_of_gt (Nat.two_pow_pos _))⟩
theorem lt64 {d : FP.Core.Datum} (h : wf64 d) : FP.Core.encode FP.Core.b64 d < 2 ^ 64 := by
  obtain ⟨s, e, t, k1, k2, k3, k4, -⟩ := enc64 h
  rw [k1]
  omega
theorem vf64 {d : FP.Core.Datum} (h : wf64 d) : vf_n64 (UInt64.ofNat (FP.Core.encode FP.Core.b64 d)) := by
  obtain ⟨s, e, t, k1, k2, k3, k4, -⟩ := enc64 h
  unfold vf_n64
  rw [UInt64.le_iff_toNat_le, UInt64.toNat_and, UInt64.toNat_ofNat', k1, show (0x7fffffffffffffff : UInt64).toNat = 2 ^ 63 - 1 from rfl, Nat.and_two_pow_sub_one_eq_mod, show (0x7ff0000000000000 : UInt64).toNat = 9218868437227405312 from rfl]
  omega
theorem i264 (n : Nat) (hn : n < 2 ^ 31) : (FP.i2d (nI n)).toNat = FP.Core.encode FP.Core.b64 (FP.Core.roundRatio FP.Core.b64 false n 1 0) := by
  show (UInt64.ofNat (FP.Core.fromInt FP.Core.b64 (nI n).toInt)).toNat = _
  rw [nI_toInt hn]
  have e : FP.Core.fromInt FP.Core.b64 (n : Int) = FP.Core.encode FP.Core.b64 (FP.Core.roundRatio FP.Core.b64 false n 1 0) := by
    unfold FP.Core.fromInt FP.Core.ofInt
    have e1 : decide ((n : Int) < 0) = false := by simp
    rw [e1, FP.Core.round, Int.natAbs_natCast]
  rw [e, UInt64.toNat_ofNat', Nat.mod_eq_of_lt (lt64 rr64)]
/-- the quotient of two naturals -/
theorem div64 {a b : Nat} (ha : a < 2 ^ 31) (hb : b < 2 ^ 31) (hb2 : b < 2 ^ 31) (h0 : b ≠ 0) : ∃ d, wf64 d ∧ FP.ddiv (FP.i2d (nI a)) (FP.i2d (nI b)) = UInt64.ofNat (FP.Core.encode FP.Core.b64 d) := by
  show ∃ d, wf64 d ∧ UInt64.ofNat (FP.Core.div FP.Core.b64 (FP.i2d (nI a)).toNat (FP.i2d (nI b)).toNat) = _
  rw [i264 a ha, i264 b hb2]
  unfold FP.Core.div
  obtain ⟨c, q, e, hc⟩ := fin64 h0 hb
  have hw : wf64 (.fin false c q) := by rw [← e]; exact rr64
  have hnn := nn64 (rr64 (s := false) (num := a) (den := 1) (e := 0))
  obtain ⟨s, e', t, k1, k2, k3, -, k5⟩ := enc64 hw
  obtain ⟨k6, k7⟩ := k5 _ _ _ rfl
  obtain ⟨s', c', q', k8, k9⟩ := dec64 (s := s) k3 k6
  rw [e, k1, k8]
  exact ⟨_, quo64 hnn (k9 (k7 hc)), rfl⟩
theorem cmp64 {d : FP.Core.Datum} (h : wf64 d) : FP.dcmp (UInt64.ofNat (FP.Core.encode FP.Core.b64 d)) (UInt64.ofNat (FP.Core.encode FP.Core.b64 d)) = some .eq := by
  show FP.Core.cmp FP.Core.b64 (UInt64.ofNat (FP.Core.encode FP.Core.b64 d)).toNat (UInt64.ofNat (FP.Core.encode FP.Core.b64 d)).toNat = _
  rw [UInt64.toNat_ofNat', Nat.mod_eq_of_lt (lt64 h)]
  exact ord_self (nn64 h)
theorem ft_fc32 : FP.Core.b32.tails = 8388608 ∧ FP.Core.b32.exps = 256 ∧ 2 ^ FP.Core.b32.p = 16777216 ∧ FP.Core.b32.qmin = -149 ∧ FP.Core.b32.qmax = 104 := by decide +kernel
def wf32 : FP.Core.Datum → Prop
  | .nan => False
  | .inf _ => True
  | .fin _ c q => c < 16777216 ∧ -149 ≤ q ∧ q ≤ 104
theorem enc32 {d : FP.Core.Datum} (h : wf32 d) : ∃ s e t : Nat, FP.Core.encode FP.Core.b32 d = (s * 256 + e) * 8388608 + t ∧ s ≤ 1 ∧ t < 8388608 ∧ (e ≤ 254 ∨ (e = 255 ∧ t = 0)) ∧ (∀ s' c' q', d = .fin s' c' q' → e ≤ 254 ∧ (c' ≠ 0 → e ≠ 0 ∨ t ≠ 0)) := by
  obtain ⟨h1, h2, h3, h4, h5⟩ := ft_fc32
  cases d with
  | nan => exact h.elim
  | inf s =>
    refine ⟨s.toNat, 255, 0, ?_, Bool.toNat_le s, by decide, Or.inr ⟨rfl, rfl⟩, fun _ _ _ e => by cases e⟩
    rw [FP.Core.encode, FP.Core.assemble, h1, h2]
  | fin s c q =>
    obtain ⟨k1, k2, k3⟩ := h
    rw [FP.Core.encode, h1, h4]
    by_cases hc : c < 8388608
    · rw [if_pos hc, FP.Core.assemble, h1, h2]
      exact ⟨s.toNat, 0, c, rfl, Bool.toNat_le s, hc, Or.inl (by omega), fun s' c' q' e => by cases e; exact ⟨by omega, fun h => Or.inr h⟩⟩
    · rw [if_neg hc, FP.Core.assemble, h1, h2]
      exact ⟨s.toNat, (q - -149).toNat + 1, c - 8388608, rfl, Bool.toNat_le s, by omega, Or.inl (by omega), fun s' c' q' e => by cases e; exact ⟨by omega, fun _ => Or.inl (by omega)⟩⟩
theorem dec32 {s e t : Nat} (ht : t < 8388608) (he : e ≤ 254) : ∃ s' c' q', FP.Core.decode FP.Core.b32 ((s * 256 + e) * 8388608 + t) = .fin s' c' q' ∧ ((e ≠ 0 ∨ t ≠ 0) → c' ≠ 0) := by
  obtain ⟨h1, h2, h3, h4, h5⟩ := ft_fc32
  have e1 : FP.Core.fieldE FP.Core.b32 ((s * 256 + e) * 8388608 + t) = e := by
    unfold FP.Core.fieldE
    rw [h1, h2]
    omega
  have e2 : FP.Core.fieldT FP.Core.b32 ((s * 256 + e) * 8388608 + t) = t := by
    unfold FP.Core.fieldT
    rw [h1]
    omega
  unfold FP.Core.decode
  rw [e1, e2, h2, if_neg (by omega)]
  by_cases h0 : e = 0
  · rw [if_pos h0]
    exact ⟨_, _, _, rfl, fun h => h.resolve_left (fun q => q h0)⟩
  · rw [if_neg h0, h1]
    exact ⟨_, _, _, rfl, fun _ => by omega⟩
theorem deci32 {s : Nat} : ∃ s', FP.Core.decode FP.Core.b32 ((s * 256 + 255) * 8388608 + 0) = .inf s' := by
  obtain ⟨h1, h2, h3, h4, h5⟩ := ft_fc32
  have e1 : FP.Core.fieldE FP.Core.b32 ((s * 256 + 255) * 8388608 + 0) = 255 := by
    unfold FP.Core.fieldE
    rw [h1, h2]
    omega
  have e2 : FP.Core.fieldT FP.Core.b32 ((s * 256 + 255) * 8388608 + 0) = 0 := by
    unfold FP.Core.fieldT
    rw [h1]
    omega
  unfold FP.Core.decode
  rw [e1, e2, h2, if_pos (by decide), if_pos rfl]
  exact ⟨_, rfl⟩
theorem nn32 {d : FP.Core.Datum} (h : wf32 d) : FP.Core.decode FP.Core.b32 (FP.Core.encode FP.Core.b32 d) ≠ .nan := by
  obtain ⟨s, e, t, k1, k2, k3, k4, -⟩ := enc32 h
  rw [k1]
  rcases k4 with k4 | ⟨rfl, rfl⟩
  · obtain ⟨s', c', q', h1, -⟩ := dec32 (s := s) k3 k4
    rw [h1]
    exact fun e => by cases e
  · obtain ⟨s', h1⟩ := deci32 (s := s)
    rw [h1]
    exact fun e => by cases e
theorem st32 {s : Bool} {C : Nat} {q : Int} (hq : -149 ≤ q) : wf32 (FP.Core.settle FP.Core.b32 s C q) := by
  obtain ⟨h1, h2, h3, h4, h5⟩ := ft_fc32
  unfold FP.Core.settle FP.Core.bound
  rw [h3, h5, h1]
  split
  · split
    · rename_i a b; exact ⟨a, hq, b⟩
    · trivial
  · split
    · rename_i a b; exact ⟨by omega, by omega, b⟩
    · trivial
theorem rr32 {s : Bool} {num den : Nat} {e : Int} : wf32 (FP.Core.roundRatio FP.Core.b32 s num den e) := by
  obtain ⟨h1, h2, h3, h4, h5⟩ := ft_fc32
  unfold FP.Core.roundRatio
  split
  · rw [h4]; exact ⟨by decide, by decide, by decide⟩
  · refine st32 ?_
    unfold FP.Core.quantum
    rw [h4]
    exact Int.le_max_left _ _
theorem quo32 {a : FP.Core.Datum} {t : Bool} {d : Nat} {r : Int} (ha : a ≠ .nan) (hd : d ≠ 0) : wf32 (FP.Core.quotient FP.Core.b32 a (.fin t d r)) := by
  cases a with
  | nan => exact absurd rfl ha
  | inf s => rw [FP.Core.quotient]; trivial
  | fin s c q => rw [FP.Core.quotient, if_neg hd]; exact rr32
/-- a natural below the significand's end, as a datum -/
theorem fin32 {n : Nat} (h0 : n ≠ 0) (hn : n < 16777216) : ∃ c q, FP.Core.roundRatio FP.Core.b32 false n 1 0 = .fin false c q ∧ c ≠ 0 := by
  obtain ⟨h1, h2, h3, h4, h5⟩ := ft_fc32
  have l1 := Nat.log2_self_le h0
  have l2 := Nat.lt_log2_self (n := n)
  have l3 : n.log2 < 24 := (Nat.log2_lt h0).mpr hn
  have lead : FP.Core.leading n 1 = (n.log2 : Int) := by
    unfold FP.Core.leading
    have e0 : ((n.log2 : Int) - ((1 : Nat).log2 : Int)) = (n.log2 : Int) := by
      have : (1 : Nat).log2 = 0 := by decide
      rw [this]; omega
    simp only [e0]
    rw [if_pos]
    have e1 : ((n.log2 : Int)).toNat = n.log2 := by omega
    have e2 : (-(n.log2 : Int)).toNat = 0 := by omega
    rw [e1, e2]
    omega
  have qu : FP.Core.quantum FP.Core.b32 n 1 0 = (n.log2 : Int) - 23 := by
    unfold FP.Core.quantum
    rw [lead, h4]
    have : (FP.Core.b32.p : Int) = 24 := by decide
    rw [this]
    omega
  unfold FP.Core.roundRatio FP.Core.roundAt
  rw [if_neg h0, qu]
  have eN : FP.Core.unitsNum n 0 ((n.log2 : Int) - 23) = n * 2 ^ (23 - n.log2) := by
    unfold FP.Core.unitsNum
    have : (0 - ((n.log2 : Int) - 23)).toNat = 23 - n.log2 := by omega
    rw [this]
  have eD : FP.Core.unitsDen 1 0 ((n.log2 : Int) - 23) = 1 := by
    unfold FP.Core.unitsDen
    have : ((n.log2 : Int) - 23 - 0).toNat = 0 := by omega
    rw [this]
  have eR : FP.Core.nearest (n * 2 ^ (23 - n.log2)) 1 = n * 2 ^ (23 - n.log2) := by
    unfold FP.Core.nearest
    rw [Nat.mod_one, if_pos (by decide), Nat.div_one]
  have hlt : n * 2 ^ (23 - n.log2) < 16777216 := by
    have h6 : n * 2 ^ (23 - n.log2) < 2 ^ (n.log2 + 1) * 2 ^ (23 - n.log2) := Nat.mul_lt_mul_of_pos_right l2 (Nat.two_pow_pos _)
    rw [← Nat.pow_add, show n.log2 + 1 + (23 - n.log2) = 24 by omega] at h6
    exact h6
  rw [eN, eD, eR]
  unfold FP.Core.settle FP.Core.bound
  rw [h3, if_pos hlt, h5, if_pos (by omega)]
  exact ⟨_, _, rfl, Nat.mul_ne_zero h0 (Nat.ne_of_gt (Nat.two_pow_pos _))⟩
theorem lt32 {d : FP.Core.Datum} (h : wf32 d) : FP.Core.encode FP.Core.b32 d < 2 ^ 32 := by
  obtain ⟨s, e, t, k1, k2, k3, k4, -⟩ := enc32 h
  rw [k1]
  omega
theorem vf32 {d : FP.Core.Datum} (h : wf32 d) : vf_n32 (UInt32.ofNat (FP.Core.encode FP.Core.b32 d)) := by
  obtain ⟨s, e, t, k1, k2, k3, k4, -⟩ := enc32 h
  unfold vf_n32
  rw [UInt32.le_iff_toNat_le, UInt32.toNat_and, UInt32.toNat_ofNat', k1, show (0x7fffffff : UInt32).toNat = 2 ^ 31 - 1 from rfl, Nat.and_two_pow_sub_one_eq_mod, show (0x7f800000 : UInt32).toNat = 2139095040 from rfl]
  omega
theorem i232 (n : Nat) (hn : n < 2 ^ 31) : (FP.i2f (nI n)).toNat = FP.Core.encode FP.Core.b32 (FP.Core.roundRatio FP.Core.b32 false n 1 0) := by
  show (UInt32.ofNat (FP.Core.fromInt FP.Core.b32 (nI n).toInt)).toNat = _
  rw [nI_toInt hn]
  have e : FP.Core.fromInt FP.Core.b32 (n : Int) = FP.Core.encode FP.Core.b32 (FP.Core.roundRatio FP.Core.b32 false n 1 0) := by
    unfold FP.Core.fromInt FP.Core.ofInt
    have e1 : decide ((n : Int) < 0) = false := by simp
    rw [e1, FP.Core.round, Int.natAbs_natCast]
  rw [e, UInt32.toNat_ofNat', Nat.mod_eq_of_lt (lt32 rr32)]
/-- the quotient of two naturals -/
theorem div32 {a b : Nat} (ha : a < 2 ^ 31) (hb : b < 16777216) (hb2 : b < 2 ^ 31) (h0 : b ≠ 0) : ∃ d, wf32 d ∧ FP.fdiv (FP.i2f (nI a)) (FP.i2f (nI b)) = UInt32.ofNat (FP.Core.encode FP.Core.b32 d) := by
  show ∃ d, wf32 d ∧ UInt32.ofNat (FP.Core.div FP.Core.b32 (FP.i2f (nI a)).toNat (FP.i2f (nI b)).toNat) = _
  rw [i232 a ha, i232 b hb2]
  unfold FP.Core.div
  obtain ⟨c, q, e, hc⟩ := fin32 h0 hb
  have hw : wf32 (.fin false c q) := by rw [← e]; exact rr32
  have hnn := nn32 (rr32 (s := false) (num := a) (den := 1) (e := 0))
  obtain ⟨s, e', t, k1, k2, k3, -, k5⟩ := enc32 hw
  obtain ⟨k6, k7⟩ := k5 _ _ _ rfl
  obtain ⟨s', c', q', k8, k9⟩ := dec32 (s := s) k3 k6
  rw [e, k1, k8]
  exact ⟨_, quo32 hnn (k9 (k7 hc)), rfl⟩
theorem cmp32 {d : FP.Core.Datum} (h : wf32 d) : FP.fcmp (UInt32.ofNat (FP.Core.encode FP.Core.b32 d)) (UInt32.ofNat (FP.Core.encode FP.Core.b32 d)) = some .eq := by
  show FP.Core.cmp FP.Core.b32 (UInt32.ofNat (FP.Core.encode FP.Core.b32 d)).toNat (UInt32.ofNat (FP.Core.encode FP.Core.b32 d)).toNat = _
  rw [UInt32.toNat_ofNat', Nat.mod_eq_of_lt (lt32 h)]
  exact ord_self (nn32 h)
theorem pu_31s {X : pu_S} (h : pu_I X) (hT : pu_T X) {c : Nat} (hb : 60 * pA X 1 + pA X 2 ≤ 900 * c) (hc : c ≤ 1000) : s6 (fun t => pF X t 0) < 2 ^ 31 ∧ pA X 4 < 16777216 ∧ pA X 5 < 2 ^ 31 := by
  obtain ⟨b1, b2, b3⟩ := h.2.1
  have h2 := hT.2
  exact ⟨by omega, by omega, by omega⟩
theorem g_m0 {r : Nat → Int32} (h : ft_Gd r) (h0 : l_truckCount (ft_nr r) = 0) : Op.cmpValue (FP.dcmp (w_meanCoins (ft_nr r)) 13830554455654793216) .l = 0 := by
  have e : w_meanCoins (ft_nr r) = 13830554455654793216 := by
    unfold w_meanCoins l_meanCoins s_X7_meanCoins
    rw [if_pos (show (ft_nr r).1 0 0 = 0 from h0)]
  rw [e]
  decide +kernel
theorem v_mean {r : Nat → Int32} (h0 : ¬ r 0 = 0) : w_meanCoins (ft_nr r) = FP.ddiv (FP.i2d (s_X4_sumOfCoins r)) (FP.i2d (r 0)) := by
  unfold w_meanCoins l_meanCoins s_X7_meanCoins
  rw [if_neg (show ¬ (ft_nr r).1 0 0 = 0 from h0)]
  rfl
theorem g_div {X : pu_S} (hI : pu_I X) (hT : pu_T X) {c : Nat} (hb : 60 * pA X 1 + pA X 2 ≤ 900 * c) (hc : c ≤ 1000) (h0 : ¬ (pu_r X) 0 = 0) : ∃ d, wf64 d ∧ FP.ddiv (FP.i2d (nI (s6 (fun t => pF X t 0)))) (FP.i2d (nI (pA X 0))) = UInt64.ofNat (FP.Core.encode FP.Core.b64 d) := by
  have h6 := hI.1.1
  have h1 := (pu_31s hI hT hb hc).1
  exact div64 h1 (by omega) (by omega) (fun e => h0 (by rw [pu_rA (by omega), e, nI_0]))
theorem g_m2 {r : Nat → Int32} (h : ft_Gd r) (h0 : ¬ r 0 = 0) : vf_n64 (FP.ddiv (FP.i2d (s_X4_sumOfCoins r)) (FP.i2d (r 0))) := by
  obtain ⟨X, rfl, hI, hT, hb⟩ := h
  obtain ⟨d, h1, h2⟩ := g_div hI hT hb (by omega) h0
  rw [pu_sumC, pu_rA (by omega), h2]
  exact vf64 h1
theorem g_m1 {r : Nat → Int32} (h : ft_Gd r) (h0 : ¬ l_truckCount (ft_nr r) = 0) : vf_n64 (FP.ddiv (FP.i2d (ft_up (fun y => p_coins (ft_nr r) y) 0 (tn (l_truckCount (ft_nr r))))) (FP.i2d (l_truckCount (ft_nr r)))) ∧ Op.cmpValue (FP.dcmp (w_meanCoins (ft_nr r)) (FP.ddiv (FP.i2d (ft_up (fun y => p_coins (ft_nr r) y) 0 (tn (l_truckCount (ft_nr r))))) (FP.i2d (l_truckCount (ft_nr r))))) .l = 0 := by
  obtain ⟨X, rfl, hI, hT, hb⟩ := h
  have h0 : ¬ (pu_r X) 0 = 0 := h0
  obtain ⟨d, h1, h2⟩ := g_div hI hT hb (by omega) h0
  rw [v_mean h0, v_sumc hI, v_cnt, pu_sumC, pu_rA (by omega), h2, cmp64 h1]
  exact ⟨vf64 h1, rfl⟩
theorem g_s0 {r : Nat → Int32} (h : ft_Gd r) (h0 : l_arrivedTotal (ft_nr r) = 0) : Op.cmpValue (FP.fcmp (w_servedShare (ft_nr r)) 3212836864) .l = 0 := by
  have e : w_servedShare (ft_nr r) = 3212836864 := by
    unfold w_servedShare l_servedShare s_X7_servedShare
    rw [if_pos (show (ft_nr r).1 0 4 = 0 from h0)]
  rw [e]
  decide +kernel
theorem v_share {r : Nat → Int32} (h0 : ¬ r 4 = 0) : w_servedShare (ft_nr r) = FP.fdiv (FP.i2f (r 5)) (FP.i2f (r 4)) := by
  unfold w_servedShare l_servedShare s_X7_servedShare
  rw [if_neg (show ¬ (ft_nr r).1 0 4 = 0 from h0)]
  rfl
theorem g_dvf {X : pu_S} (hI : pu_I X) (hT : pu_T X) {c : Nat} (hb : 60 * pA X 1 + pA X 2 ≤ 900 * c) (hc : c ≤ 1000) (h0 : ¬ (pu_r X) 4 = 0) : ∃ d, wf32 d ∧ FP.fdiv (FP.i2f (nI (pA X 5))) (FP.i2f (nI (pA X 4))) = UInt32.ofNat (FP.Core.encode FP.Core.b32 d) := by
  obtain ⟨h1, h2, h3⟩ := pu_31s hI hT hb hc
  exact div32 h3 h2 (by omega) (fun e => h0 (by rw [pu_rA (by omega), e, nI_0]))
theorem g_s2 {r : Nat → Int32} (h : ft_Gd r) (h0 : ¬ r 4 = 0) : vf_n32 (FP.fdiv (FP.i2f (r 5)) (FP.i2f (r 4))) := by
  obtain ⟨X, rfl, hI, hT, hb⟩ := h
  obtain ⟨d, h1, h2⟩ := g_dvf hI hT hb (by omega) h0
  rw [pu_rA (by omega), pu_rA (by omega), h2]
  exact vf32 h1
theorem g_s1 {r : Nat → Int32} (h : ft_Gd r) (h0 : ¬ l_arrivedTotal (ft_nr r) = 0) : vf_n32 (FP.fdiv (FP.i2f (l_servedTotal (ft_nr r))) (FP.i2f (l_arrivedTotal (ft_nr r)))) ∧ Op.cmpValue (FP.fcmp (w_servedShare (ft_nr r)) (FP.fdiv (FP.i2f (l_servedTotal (ft_nr r))) (FP.i2f (l_arrivedTotal (ft_nr r))))) .l = 0 := by
  obtain ⟨X, rfl, hI, hT, hb⟩ := h
  have h0 : ¬ (pu_r X) 4 = 0 := h0
  obtain ⟨d, h1, h2⟩ := g_dvf hI hT hb (by omega) h0
  rw [v_share h0, v_served, v_arrived, pu_rA (by omega), pu_rA (by omega), h2, cmp32 h1]
  exact ⟨vf32 h1, rfl⟩
