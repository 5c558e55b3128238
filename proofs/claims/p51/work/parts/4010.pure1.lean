/-! rows of naturals: scalars, prices, sold, holders, the trucks' 17 numbers each -/
abbrev pu_S : Type := (Nat → Nat) × (Nat → Nat) × (Nat → Nat) × (Nat → Option Nat) × (Nat → Nat → Nat)
abbrev pA (X : pu_S) : Nat → Nat := X.1
abbrev pP (X : pu_S) : Nat → Nat := X.2.1
abbrev pO (X : pu_S) : Nat → Nat := X.2.2.1
abbrev pH (X : pu_S) : Nat → Option Nat := X.2.2.2.1
abbrev pF (X : pu_S) : Nat → Nat → Nat := X.2.2.2.2
def ft_he (t : Option Nat) : Int32 := match t with
  | none => -1
  | some t => nI t
def pu_r (X : pu_S) : Nat → Int32 := fun j => if j < 8 then nI (pA X j) else if j < 12 then nI (pP X (j - 8)) else if j < 16 then nI (pO X (j - 12)) else if j < 51 then ft_he (pH X (j - 16)) else nI (pF X ((j - 51) / 17) ((j - 51) % 17))
theorem pu_rA {X : pu_S} {j : Nat} (h : j < 8) : pu_r X j = nI (pA X j) := if_pos h
theorem pu_rP {X : pu_S} {d : Nat} (h : d < 4) : pu_r X (8 + d) = nI (pP X d) := by
  unfold pu_r
  rw [if_neg (by omega), if_pos (by omega), show 8 + d - 8 = d by omega]
theorem pu_rO {X : pu_S} {d : Nat} (h : d < 4) : pu_r X (12 + d) = nI (pO X d) := by
  unfold pu_r
  rw [if_neg (by omega), if_neg (by omega), if_pos (by omega), show 12 + d - 12 = d by omega]
theorem pu_rH {X : pu_S} {i : Nat} (h : i < 35) : pu_r X (16 + i) = ft_he (pH X i) := by
  unfold pu_r
  rw [if_neg (by omega), if_neg (by omega), if_neg (by omega), if_pos (by omega), show 16 + i - 16 = i by omega]
theorem pu_rF {X : pu_S} {t k : Nat} (h : k < 17) : pu_r X (51 + 17 * t + k) = nI (pF X t k) := by
  unfold pu_r
  rw [if_neg (by omega), if_neg (by omega), if_neg (by omega), if_neg (by omega), show (51 + 17 * t + k - 51) / 17 = t by omega, show (51 + 17 * t + k - 51) % 17 = k by omega]
def uA (X : pu_S) (j x : Nat) : pu_S := (va_up X.1 j x, X.2)
def uP (X : pu_S) (j x : Nat) : pu_S := (X.1, va_up X.2.1 j x, X.2.2)
def uO (X : pu_S) (j x : Nat) : pu_S := (X.1, X.2.1, va_up X.2.2.1 j x, X.2.2.2)
def uH (X : pu_S) (j : Nat) (x : Option Nat) : pu_S := (X.1, X.2.1, X.2.2.1, va_up X.2.2.2.1 j x, X.2.2.2.2)
def uF (X : pu_S) (t k x : Nat) : pu_S := (X.1, X.2.1, X.2.2.1, X.2.2.2.1, va_up X.2.2.2.2 t (va_up (X.2.2.2.2 t) k x))
theorem uA_s {X : pu_S} {j x : Nat} : pA (uA X j x) j = x := va_up_self X.1 j x
theorem pu_uA {X : pu_S} {j x : Nat} (h : j < 8) : va_up (pu_r X) j (nI x) = pu_r (uA X j x) := by
  funext y
  by_cases hy : y = j
  · subst hy; rw [va_up_self, pu_rA h]; exact congrArg nI (va_up_self _ _ _).symm
  · rw [va_up_ne _ _ hy]
    by_cases h1 : y < 8
    · rw [pu_rA h1, pu_rA h1]; exact congrArg nI (va_up_ne _ _ hy).symm
    · unfold pu_r; rw [if_neg h1, if_neg h1]; rfl
theorem pu_uP {X : pu_S} {d x : Nat} (h : d < 4) : va_up (pu_r X) (8 + d) (nI x) = pu_r (uP X d x) := by
  funext y
  by_cases hy : y = 8 + d
  · subst hy; rw [va_up_self, pu_rP h]; exact congrArg nI (va_up_self _ _ _).symm
  · rw [va_up_ne _ _ hy]
    unfold pu_r
    by_cases h1 : y < 8
    · rw [if_pos h1, if_pos h1]; rfl
    · rw [if_neg h1, if_neg h1]
      by_cases h2 : y < 12
      · rw [if_pos h2, if_pos h2]; exact congrArg nI (va_up_ne _ _ (show y - 8 ≠ d by omega)).symm
      · rw [if_neg h2, if_neg h2]; rfl
theorem pu_uO {X : pu_S} {d x : Nat} (h : d < 4) : va_up (pu_r X) (12 + d) (nI x) = pu_r (uO X d x) := by
  funext y
  by_cases hy : y = 12 + d
  · subst hy; rw [va_up_self, pu_rO h]; exact congrArg nI (va_up_self _ _ _).symm
  · rw [va_up_ne _ _ hy]
    unfold pu_r
    by_cases h1 : y < 8
    · rw [if_pos h1, if_pos h1]; rfl
    · rw [if_neg h1, if_neg h1]
      by_cases h2 : y < 12
      · rw [if_pos h2, if_pos h2]; rfl
      · rw [if_neg h2, if_neg h2]
        by_cases h3 : y < 16
        · rw [if_pos h3, if_pos h3]; exact congrArg nI (va_up_ne _ _ (show y - 12 ≠ d by omega)).symm
        · rw [if_neg h3, if_neg h3]; rfl
theorem pu_uH {X : pu_S} {i : Nat} {x : Option Nat} (h : i < 35) : va_up (pu_r X) (16 + i) (ft_he x) = pu_r (uH X i x) := by
  funext y
  by_cases hy : y = 16 + i
  · subst hy; rw [va_up_self, pu_rH h]; exact congrArg ft_he (va_up_self _ _ _).symm
  · rw [va_up_ne _ _ hy]
    unfold pu_r
    by_cases h1 : y < 8
    · rw [if_pos h1, if_pos h1]; rfl
    · rw [if_neg h1, if_neg h1]
      by_cases h2 : y < 12
      · rw [if_pos h2, if_pos h2]; rfl
      · rw [if_neg h2, if_neg h2]
        by_cases h3 : y < 16
        · rw [if_pos h3, if_pos h3]; rfl
        · rw [if_neg h3, if_neg h3]
          by_cases h4 : y < 51
          · rw [if_pos h4, if_pos h4]; exact congrArg ft_he (va_up_ne _ _ (show y - 16 ≠ i by omega)).symm
          · rw [if_neg h4, if_neg h4]; rfl
theorem uF_s {X : pu_S} {t k x : Nat} : pF (uF X t k x) t k = x := by
  show va_up X.2.2.2.2 t (va_up (X.2.2.2.2 t) k x) t k = x
  rw [va_up_self, va_up_self]
theorem uF_k {X : pu_S} {t k x t' k' : Nat} (h : k' ≠ k) : pF (uF X t k x) t' k' = pF X t' k' := by
  show va_up X.2.2.2.2 t (va_up (X.2.2.2.2 t) k x) t' k' = _
  by_cases ht : t' = t
  · subst ht; rw [va_up_self, va_up_ne _ _ h]
  · rw [va_up_ne _ _ ht]
theorem uF_t {X : pu_S} {t k x t' k' : Nat} (h : t' ≠ t) : pF (uF X t k x) t' k' = pF X t' k' := by
  show va_up X.2.2.2.2 t (va_up (X.2.2.2.2 t) k x) t' k' = _
  rw [va_up_ne _ _ h]
theorem pu_uF {X : pu_S} {t k x : Nat} (h : k < 17) : va_up (pu_r X) (51 + 17 * t + k) (nI x) = pu_r (uF X t k x) := by
  funext y
  by_cases hy : y = 51 + 17 * t + k
  · subst hy; rw [va_up_self, pu_rF h, uF_s]
  · rw [va_up_ne _ _ hy]
    unfold pu_r
    by_cases h1 : y < 8
    · rw [if_pos h1, if_pos h1]; rfl
    · rw [if_neg h1, if_neg h1]
      by_cases h2 : y < 12
      · rw [if_pos h2, if_pos h2]; rfl
      · rw [if_neg h2, if_neg h2]
        by_cases h3 : y < 16
        · rw [if_pos h3, if_pos h3]; rfl
        · rw [if_neg h3, if_neg h3]
          by_cases h4 : y < 51
          · rw [if_pos h4, if_pos h4]; rfl
          · rw [if_neg h4, if_neg h4]
            by_cases ht : (y - 51) / 17 = t
            · rw [uF_k (show (y - 51) % 17 ≠ k by omega)]
            · rw [uF_t ht]
/-- sums over the six trucks -/
def s6 (g : Nat → Nat) : Nat := g 0 + g 1 + g 2 + g 3 + g 4 + g 5
theorem s6_up {g g' : Nat → Nat} {t x : Nat} (ht : t < 6) (h0 : g' t = x) (h1 : ∀ i, i < 6 → i ≠ t → g' i = g i) : s6 g' + g t = s6 g + x := by
  unfold s6
  have e : t = 0 ∨ t = 1 ∨ t = 2 ∨ t = 3 ∨ t = 4 ∨ t = 5 := by omega
  rcases e with rfl | rfl | rfl | rfl | rfl | rfl
  · rw [h0, h1 1 (by omega) (by omega), h1 2 (by omega) (by omega), h1 3 (by omega) (by omega), h1 4 (by omega) (by omega), h1 5 (by omega) (by omega)]; omega
  · rw [h0, h1 0 (by omega) (by omega), h1 2 (by omega) (by omega), h1 3 (by omega) (by omega), h1 4 (by omega) (by omega), h1 5 (by omega) (by omega)]; omega
  · rw [h0, h1 1 (by omega) (by omega), h1 0 (by omega) (by omega), h1 3 (by omega) (by omega), h1 4 (by omega) (by omega), h1 5 (by omega) (by omega)]; omega
  · rw [h0, h1 1 (by omega) (by omega), h1 2 (by omega) (by omega), h1 0 (by omega) (by omega), h1 4 (by omega) (by omega), h1 5 (by omega) (by omega)]; omega
  · rw [h0, h1 1 (by omega) (by omega), h1 2 (by omega) (by omega), h1 3 (by omega) (by omega), h1 0 (by omega) (by omega), h1 5 (by omega) (by omega)]; omega
  · rw [h0, h1 1 (by omega) (by omega), h1 2 (by omega) (by omega), h1 3 (by omega) (by omega), h1 4 (by omega) (by omega), h1 0 (by omega) (by omega)]; omega
theorem s6_eq {g g' : Nat → Nat} (h : ∀ i, i < 6 → g' i = g i) : s6 g' = s6 g := by
  unfold s6
  rw [h 0 (by omega), h 1 (by omega), h 2 (by omega), h 3 (by omega), h 4 (by omega), h 5 (by omega)]
theorem s6_le {g : Nat → Nat} {t : Nat} (ht : t < 6) : g t ≤ s6 g := by
  unfold s6
  have e : t = 0 ∨ t = 1 ∨ t = 2 ∨ t = 3 ∨ t = 4 ∨ t = 5 := by omega
  rcases e with rfl | rfl | rfl | rfl | rfl | rfl <;> omega
def s4 (g : Nat → Nat) : Nat := g 0 + g 1 + g 2 + g 3
theorem s4_up {g g' : Nat → Nat} {t x : Nat} (ht : t < 4) (h0 : g' t = x) (h1 : ∀ i, i < 4 → i ≠ t → g' i = g i) : s4 g' + g t = s4 g + x := by
  unfold s4
  have e : t = 0 ∨ t = 1 ∨ t = 2 ∨ t = 3 := by omega
  rcases e with rfl | rfl | rfl | rfl
  · rw [h0, h1 1 (by omega) (by omega), h1 2 (by omega) (by omega), h1 3 (by omega) (by omega)]; omega
  · rw [h0, h1 0 (by omega) (by omega), h1 2 (by omega) (by omega), h1 3 (by omega) (by omega)]; omega
  · rw [h0, h1 1 (by omega) (by omega), h1 0 (by omega) (by omega), h1 3 (by omega) (by omega)]; omega
  · rw [h0, h1 1 (by omega) (by omega), h1 2 (by omega) (by omega), h1 0 (by omega) (by omega)]; omega
theorem s4_le {g : Nat → Nat} {t : Nat} (ht : t < 4) : g t ≤ s4 g := by
  unfold s4
  have e : t = 0 ∨ t = 1 ∨ t = 2 ∨ t = 3 := by omega
  rcases e with rfl | rfl | rfl | rfl <;> omega
/-! where an index lies -/
theorem ft_tnI {n : Nat} (h : n < 2 ^ 31) : tn (nI n) = n := nI_clamp h
theorem nI_geI {a b : Nat} (ha : a < 2 ^ 31) (hb : b < 2 ^ 31) : ¬ (nI a ≤ nI b) ↔ b < a := by rw [nI_leI ha hb]; omega
theorem ft_ix (x : Int32) {n : Nat} (hn : n < 2 ^ 31) : (x < 0) ∨ (¬ x < 0 ∧ nI n ≤ x) ∨ ∃ t, t < n ∧ x = nI t := by
  rcases pk_ix x hn with h | h | ⟨t, h1, h2⟩
  · exact Or.inl h
  · by_cases h0 : x < 0
    · exact Or.inl h0
    · exact Or.inr (Or.inl ⟨h0, h⟩)
  · exact Or.inr (Or.inr ⟨t, h1, h2⟩)
theorem pu_isDish (x : Int32) : s_X7_isDish x = 0 ∨ ∃ d, d < 4 ∧ x = nI d := by
  unfold s_X7_isDish
  rcases ft_ix x (n := 4) (by decide) with h | ⟨h0, h⟩ | h
  · rw [if_pos h]; exact Or.inl rfl
  · rw [if_neg h0, if_pos (show (4 : Int32) ≤ x from h)]; exact Or.inl rfl
  · exact Or.inr h
theorem pu_isDish1 {d : Nat} (h : d < 4) : s_X7_isDish (nI d) = 1 := by
  unfold s_X7_isDish
  rw [if_neg (nI_pos (by omega)), if_neg (show ¬ (4 : Int32) ≤ nI d from (nI_geI (a := 4) (by decide) (by omega)).mpr h)]
theorem pu_isPitch (x : Int32) : s_X7_isPitch x = 0 ∨ ∃ d, d < 5 ∧ x = nI d := by
  unfold s_X7_isPitch
  rcases ft_ix x (n := 5) (by decide) with h | ⟨h0, h⟩ | h
  · rw [if_pos h]; exact Or.inl rfl
  · rw [if_neg h0, if_pos (show (5 : Int32) ≤ x from h)]; exact Or.inl rfl
  · exact Or.inr h
theorem pu_isPitch1 {d : Nat} (h : d < 5) : s_X7_isPitch (nI d) = 1 := by
  unfold s_X7_isPitch
  rw [if_neg (nI_pos (by omega)), if_neg (show ¬ (5 : Int32) ≤ nI d from (nI_geI (a := 5) (by decide) (by omega)).mpr h)]
theorem pu_isWeekday (x : Int32) : s_X7_isWeekday x = 0 ∨ ∃ d, d < 7 ∧ x = nI d := by
  unfold s_X7_isWeekday
  rcases ft_ix x (n := 7) (by decide) with h | ⟨h0, h⟩ | h
  · rw [if_pos h]; exact Or.inl rfl
  · rw [if_neg h0, if_pos (show (7 : Int32) ≤ x from h)]; exact Or.inl rfl
  · exact Or.inr h
theorem pu_isWeekday1 {d : Nat} (h : d < 7) : s_X7_isWeekday (nI d) = 1 := by
  unfold s_X7_isWeekday
  rw [if_neg (nI_pos (by omega)), if_neg (show ¬ (7 : Int32) ≤ nI d from (nI_geI (a := 7) (by decide) (by omega)).mpr h)]
theorem pu_isTruck {X : pu_S} (h0 : pA X 0 ≤ 6) (x : Int32) : s_X4_isTruck (pu_r X) x = 0 ∨ ∃ t, t < pA X 0 ∧ x = nI t := by
  unfold s_X4_isTruck
  rw [pu_rA (by omega)]
  rcases ft_ix x (n := pA X 0) (by omega) with h | ⟨h0, h⟩ | h
  · rw [if_pos h]; exact Or.inl rfl
  · rw [if_neg h0, if_pos h]; exact Or.inl rfl
  · exact Or.inr h
theorem pu_isTruck1 {X : pu_S} (h0 : pA X 0 ≤ 6) {t : Nat} (ht : t < pA X 0) : s_X4_isTruck (pu_r X) (nI t) = 1 := by
  unfold s_X4_isTruck
  rw [pu_rA (by omega), if_neg (nI_pos (by omega)), if_neg ((nI_geI (by omega) (by omega)).mpr ht), if_neg (show ¬ (6 : Int32) ≤ nI t from (nI_geI (a := 6) (by decide) (by omega)).mpr (by omega))]
theorem pu_isTruckN {X : pu_S} : s_X4_isTruck (pu_r X) (-1) = 0 := by
  unfold s_X4_isTruck
  rw [if_pos (by decide)]
theorem pu_hix {p d : Nat} (hp : p < 5) (hd : d < 7) : tn (nI p * 7 + nI d) = 7 * p + d := by
  rw [show (7 : Int32) = nI 7 from rfl, pk_mul, nI_add, ft_tnI (by omega)]
  omega
theorem pu_holderOf {X : pu_S} {p d : Nat} (hp : p < 5) (hd : d < 7) : s_X4_holderOf (pu_r X) (nI p) (nI d) = ft_he (pH X (7 * p + d)) := by
  unfold s_X4_holderOf
  rw [if_neg (nI_pos (by omega)), if_neg (show ¬ (5 : Int32) ≤ nI p from (nI_geI (a := 5) (by decide) (by omega)).mpr hp), if_neg (nI_pos (by omega)), if_pos (show nI d < (7 : Int32) from nI_lt hd (by decide)), pu_hix hp hd, ft_ar_get (by omega), pu_rH (by omega)]
theorem pu_holderN {r : Nat → Int32} {x y : Int32} (h : s_X7_isPitch x = 0 ∨ s_X7_isWeekday y = 0) : s_X4_holderOf r x y = -1 := by
  unfold s_X4_holderOf
  by_cases h1 : x < 0
  · rw [if_pos h1]
  rw [if_neg h1]
  by_cases h2 : 5 ≤ x
  · rw [if_pos h2]
  rw [if_neg h2]
  by_cases h3 : y < 0
  · rw [if_pos h3]
  rw [if_neg h3]
  by_cases h4 : y < 7
  · exfalso
    rcases h with h | h
    · unfold s_X7_isPitch at h; rw [if_neg h1, if_neg h2] at h; exact absurd h (by decide)
    · unfold s_X7_isWeekday at h; rw [if_neg h3, if_neg (by rw [Int32.le_iff_toInt_le]; rw [Int32.lt_iff_toInt_lt] at h4; omega)] at h; exact absurd h (by decide)
  · rw [if_neg h4]
theorem pu_setHolder {X : pu_S} {p d : Nat} {t : Option Nat} (hp : p < 5) (hd : d < 7) : s_X4_setHolder (pu_r X) (nI p) (nI d) (ft_he t) = pu_r (uH X (7 * p + d) t) := by
  unfold s_X4_setHolder
  rw [pu_isPitch1 hp, pu_isWeekday1 hd, if_neg (by decide), if_neg (by decide), pu_hix hp hd, pu_uH (by omega)]
theorem ft_he_inj {s t : Option Nat} (hs : ∀ x, s = some x → x < 2 ^ 31) (ht : ∀ x, t = some x → x < 2 ^ 31) (h : ft_he s = ft_he t) : s = t := by
  cases s with
  | none => cases t with
    | none => rfl
    | some y =>
      have h : (-1 : Int32) = nI y := h
      have h1 := nI_pos (ht y rfl)
      rw [← h] at h1
      exact absurd (by decide) h1
  | some x => cases t with
    | none =>
      have h : nI x = (-1 : Int32) := h
      have h1 := nI_pos (hs x rfl)
      rw [h] at h1
      exact absurd (by decide) h1
    | some y =>
      have h : nI x = nI y := h
      rw [(nI_eq (hs x rfl) (ht y rfl)).mp h]
theorem ft_he_n {x : Nat} (h : x < 2 ^ 31) : ¬ ft_he (some x) = -1 := fun e => nI_pos h (by rw [show nI x = -1 from e]; decide)
/-- the lowest pitch p ≥ i whose holder on the day is x -/
def ft_pd (h : Nat → Option Nat) (x : Option Nat) (d : Nat) : Nat → Nat → Option Nat
  | 0, _ => none
  | n + 1, i => if h (7 * i + d) = x then some i else ft_pd h x d n (i + 1)
def ft_ph (h : Nat → Option Nat) (x : Option Nat) (d : Nat) : Option Nat := ft_pd h x d 5 0
theorem pu_pitchHeldBy_L {X : pu_S} {x : Option Nat} {d : Nat} (hd : d < 7) (hh : ∀ i, i < 35 → ∀ t, pH X i = some t → t < 2 ^ 31) (hx : ∀ t, x = some t → t < 2 ^ 31) : ∀ (n i m : Nat), i + n = 5 → n < m → s_X4_pitchHeldBy_L2 (pu_r X) (ft_he x) (nI d) (fun _ => (-1)) m (nI i) = ft_he (ft_pd (pH X) x d n i) := by
  intro n
  induction n with
  | zero =>
    intro i m hi hm
    obtain ⟨m, rfl⟩ : ∃ q, m = q + 1 := ⟨m - 1, by omega⟩
    obtain rfl : i = 5 := by omega
    rw [s_X4_pitchHeldBy_L2, if_pos (by decide)]
    rfl
  | succ n ih =>
    intro i m hi hm
    obtain ⟨m, rfl⟩ : ∃ q, m = q + 1 := ⟨m - 1, by omega⟩
    rw [s_X4_pitchHeldBy_L2, if_neg (show ¬ (5 : Int32) ≤ nI i from (nI_geI (a := 5) (by decide) (by omega)).mpr (by omega)), pu_holderOf (by omega) hd, ft_pd]
    by_cases he : pH X (7 * i + d) = x
    · rw [if_pos he, he, if_pos rfl]; rfl
    · rw [if_neg he, if_neg (fun h9 => he (ft_he_inj (fun t ht => hh _ (by omega) t ht) hx h9)), nI_1]
      exact ih (i + 1) m (by omega) (by omega)
theorem pu_pitchHeldBy {X : pu_S} {x : Option Nat} {d : Nat} (hd : d < 7) (hh : ∀ i, i < 35 → ∀ t, pH X i = some t → t < 2 ^ 31) (hx : ∀ t, x = some t → t < 2 ^ 31) : s_X4_pitchHeldBy (pu_r X) (ft_he x) (nI d) = ft_he (ft_ph (pH X) x d) := by
  unfold s_X4_pitchHeldBy
  exact pu_pitchHeldBy_L hd hh hx 5 0 _ rfl (by decide)
theorem ft_pd_some {h : Nat → Option Nat} {x : Option Nat} {d : Nat} : ∀ (n i p : Nat), ft_pd h x d n i = some p → i ≤ p ∧ p < i + n ∧ h (7 * p + d) = x ∧ ∀ q, i ≤ q → q < p → h (7 * q + d) ≠ x := by
  intro n
  induction n with
  | zero => intro i p hp; cases hp
  | succ n ih =>
    intro i p hp
    rw [ft_pd] at hp
    by_cases he : h (7 * i + d) = x
    · rw [if_pos he] at hp
      obtain rfl : i = p := Option.some.inj hp
      exact ⟨by omega, by omega, he, fun q h1 h2 => by omega⟩
    · rw [if_neg he] at hp
      obtain ⟨h1, h2, h3, h4⟩ := ih _ _ hp
      refine ⟨by omega, by omega, h3, fun q h5 h6 => ?_⟩
      by_cases hq : q = i
      · subst hq; exact he
      · exact h4 q (by omega) h6
theorem ft_pd_none {h : Nat → Option Nat} {x : Option Nat} {d : Nat} : ∀ (n i : Nat), ft_pd h x d n i = none → ∀ q, i ≤ q → q < i + n → h (7 * q + d) ≠ x := by
  intro n
  induction n with
  | zero => intro i _ q h1 h2; omega
  | succ n ih =>
    intro i hp q h1 h2
    rw [ft_pd] at hp
    by_cases he : h (7 * i + d) = x
    · rw [if_pos he] at hp; cases hp
    · rw [if_neg he] at hp
      by_cases hq : q = i
      · subst hq; exact he
      · exact ih _ hp q (by omega) (by omega)
theorem ft_ph_some {h : Nat → Option Nat} {x : Option Nat} {d p : Nat} (hp : ft_ph h x d = some p) : p < 5 ∧ h (7 * p + d) = x ∧ ∀ q, q < p → h (7 * q + d) ≠ x := by
  obtain ⟨-, h2, h3, h4⟩ := ft_pd_some _ _ _ hp
  exact ⟨by omega, h3, fun q hq => h4 q (by omega) hq⟩
theorem ft_ph_none {h : Nat → Option Nat} {x : Option Nat} {d : Nat} (hp : ft_ph h x d = none) : ∀ q, q < 5 → h (7 * q + d) ≠ x := fun q hq => ft_pd_none _ _ hp q (by omega) (by omega)
