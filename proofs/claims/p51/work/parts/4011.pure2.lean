/-! permits' bits -/
theorem pu_bit : ∀ m, m < 128 → ∀ k, k < 7 → ((nI m &&& (1 <<< (nI k &&& 31))) = 0 ↔ ¬ m / 2 ^ k % 2 = 1) := by decide +kernel
theorem pu_bor' : ∀ m, m < 128 → ∀ k, k < 7 → (m / 2 ^ k % 2 = 1 ∨ ((nI m ||| (1 <<< (nI k &&& 31))) = nI (m + 2 ^ k) ∧ m + 2 ^ k < 128 ∧ ∀ j, j < 7 → ((m + 2 ^ k) / 2 ^ j % 2 = 1 ↔ (j = k ∨ m / 2 ^ j % 2 = 1)))) := by decide +kernel
theorem pu_bor {m : Nat} (hm : m < 128) {k : Nat} (hk : k < 7) (h : ¬ m / 2 ^ k % 2 = 1) : (nI m ||| (1 <<< (nI k &&& 31))) = nI (m + 2 ^ k) ∧ m + 2 ^ k < 128 ∧ ∀ j, j < 7 → ((m + 2 ^ k) / 2 ^ j % 2 = 1 ↔ (j = k ∨ m / 2 ^ j % 2 = 1)) := (pu_bor' m hm k hk).resolve_left h
theorem pu_band' : ∀ m, m < 128 → ∀ k, k < 7 → (¬ m / 2 ^ k % 2 = 1 ∨ ((nI m &&& ((1 <<< (nI k &&& 31)) ^^^ (-1))) = nI (m - 2 ^ k) ∧ m - 2 ^ k < 128 ∧ ∀ j, j < 7 → ((m - 2 ^ k) / 2 ^ j % 2 = 1 ↔ (j ≠ k ∧ m / 2 ^ j % 2 = 1)))) := by decide +kernel
theorem pu_band {m : Nat} (hm : m < 128) {k : Nat} (hk : k < 7) (h : m / 2 ^ k % 2 = 1) : (nI m &&& ((1 <<< (nI k &&& 31)) ^^^ (-1))) = nI (m - 2 ^ k) ∧ m - 2 ^ k < 128 ∧ ∀ j, j < 7 → ((m - 2 ^ k) / 2 ^ j % 2 = 1 ↔ (j ≠ k ∧ m / 2 ^ j % 2 = 1)) := (pu_band' m hm k hk).resolve_left (fun q => q h)
theorem pu_bc : ∀ m, m < 128 → 0 ≤ s_J6_bitCount_0f7a4 (nI m) := by decide +kernel
theorem pu_isPermitted {X : pu_S} {t k : Nat} (ht : pF X t 3 < 128) (hk : k < 7) : s_X6_isPermitted (pu_r X) (51 + 17 * t) (nI k) = if pF X t 3 / 2 ^ k % 2 = 1 then 1 else 0 := by
  unfold s_X6_isPermitted
  rw [pu_isWeekday1 hk, if_neg (by decide), pu_rF (by omega)]
  by_cases h : pF X t 3 / 2 ^ k % 2 = 1
  · rw [if_pos h, if_neg (fun e => (pu_bit _ ht _ hk).mp e h)]
  · rw [if_neg h, if_pos ((pu_bit _ ht _ hk).mpr h)]
/-! floorMod of a natural -/
theorem pu_xor {a d : Nat} (ha : a < 2 ^ 31) (hd : d < 2 ^ 31) : 0 ≤ (nI a ^^^ nI d) := by
  have h1 : a ^^^ d < 2 ^ 31 := Nat.xor_lt_two_pow ha hd
  have e : nI a ^^^ nI d = nI (a ^^^ d) := by
    apply Int32.toBitVec_inj.mp
    apply BitVec.eq_of_toNat_eq
    rw [Int32.toBitVec_xor, BitVec.toNat_xor, pk_tn (by omega), pk_tn (by omega), pk_tn (by omega)]
  rw [e]
  exact nI_pos' h1
theorem pu_fm {a d : Nat} (ha : a < 2 ^ 31) (h0 : 0 < d) (hd : d < 2 ^ 31) : s_J9_floorMod_7cf53 (nI a) (nI d) = nI (a % d) := by
  unfold s_J9_floorMod_7cf53
  rw [if_pos (pu_xor ha hd)]
  exact pk_rem ha h0 hd
theorem pu_today {X : pu_S} (h : pA X 1 < 2 ^ 31) : s_X4_today (pu_r X) = nI (pA X 1 % 7) := by
  unfold s_X4_today
  rw [pu_rA (by omega)]
  exact pu_fm h (d := 7) (by decide) (by decide)
/-! the invariant, in eight pieces; the clock's piece -/
def pIa (X : pu_S) : Prop := pA X 0 ≤ 6 ∧ pA X 3 ≤ 3
def pIb (X : pu_S) : Prop := pA X 4 = pA X 5 + pA X 6 + pA X 7 + s6 (fun t => pF X t 2) ∧ pA X 5 = s4 (pO X) ∧ s6 (fun t => pF X t 0) ≤ 20 * pA X 5
def pIc (X : pu_S) : Prop := ∀ d, d < 4 → pP X d ≤ 20
def pId (X : pu_S) : Prop := ∀ t, t < 6 → pF X t 2 ≤ 9 ∧ pF X t 3 < 128 ∧ (∀ d, d < 4 → pF X t (4 + d) ≤ 99) ∧ (∀ j, j < pF X t 2 → pF X t (8 + j) < 4) ∧ (0 < pF X t 1 → 0 < pF X t 2 ∧ pF X t 1 ≤ pF X t 8 ∧ 1 ≤ pF X t (4 + pF X t 8))
def pIe (X : pu_S) : Prop := ∀ t, t < 6 → pA X 0 ≤ t → pF X t 0 = 0 ∧ pF X t 2 = 0 ∧ ∀ d, d < 4 → pF X t (4 + d) = 0
def pIf (X : pu_S) : Prop := ∀ i, i < 35 → ∀ t, pH X i = some t → t < pA X 0 ∧ pF X t 3 / 2 ^ (i % 7) % 2 = 1
def pIg (X : pu_S) : Prop := ∀ p q d t, p < 5 → q < 5 → d < 7 → pH X (7 * p + d) = some t → pH X (7 * q + d) = some t → p = q
def pIh (X : pu_S) : Prop := ∀ t, t < 6 → (∀ p, p < 5 → pH X (7 * p + pA X 1 % 7) ≠ some t) → pF X t 2 = 0
def pu_I (X : pu_S) : Prop := pIa X ∧ pIb X ∧ pIc X ∧ pId X ∧ pIe X ∧ pIf X ∧ pIg X ∧ pIh X
def pu_T (X : pu_S) : Prop := pA X 2 < 60 ∧ pA X 4 ≤ 3 * (60 * pA X 1 + pA X 2)
theorem pu_I.h31 {X : pu_S} (h : pu_I X) : ∀ i, i < 35 → ∀ t, pH X i = some t → t < 2 ^ 31 := fun i hi t ht => by
  have h1 := (h.2.2.2.2.2.1 i hi t ht).1
  have h2 := h.1.1
  omega
/-- what time leaves and what it keeps in balance -/
def pu_R (X Y : pu_S) : Prop := (pA Y 0 = pA X 0 ∧ pA Y 3 = pA X 3 ∧ pP Y = pP X ∧ pH Y = pH X ∧ ∀ t, pF Y t 3 = pF X t 3) ∧ (∀ d, d < 4 → pO Y d + s6 (fun t => pF Y t (4 + d)) = pO X d + s6 (fun t => pF X t (4 + d)) ∧ pO X d ≤ pO Y d) ∧ s6 (fun t => pF Y t 0) + s4 (fun d => pO X d * pP X d) = s6 (fun t => pF X t 0) + s4 (fun d => pO Y d * pP X d)
theorem pu_R.rf {X : pu_S} : pu_R X X := ⟨⟨rfl, rfl, rfl, rfl, fun _ => rfl⟩, fun _ _ => ⟨rfl, Nat.le_refl _⟩, rfl⟩
theorem pu_R.tr {X Y Z : pu_S} (h : pu_R X Y) (g : pu_R Y Z) : pu_R X Z := by
  obtain ⟨⟨h1, h2, h3, h4, h5⟩, h6, h7⟩ := h
  obtain ⟨⟨g1, g2, g3, g4, g5⟩, g6, g7⟩ := g
  refine ⟨⟨g1.trans h1, g2.trans h2, g3.trans h3, g4.trans h4, fun t => (g5 t).trans (h5 t)⟩, fun d hd => ?_, ?_⟩
  · have a := h6 d hd
    have b := g6 d hd
    omega
  · rw [h3] at g7
    omega
theorem pu_wishAt {X : pu_S} {t j : Nat} (hq : pF X t 2 ≤ 9) (hj : j < 2 ^ 31) : s_X6_wishAt (pu_r X) (51 + 17 * t) (nI j) = if j < pF X t 2 then nI (pF X t (8 + j)) else -1 := by
  unfold s_X6_wishAt
  rw [if_neg (nI_pos hj), pu_rF (by omega)]
  by_cases h : j < pF X t 2
  · rw [if_pos h, if_neg ((nI_geI (by omega) (by omega)).mpr h), if_pos (show nI j < (9 : Int32) from nI_lt (b := 9) (by omega) (by decide)), ft_tnI hj, ft_ar_get (by omega), Nat.add_assoc, pu_rF (by omega)]
  · rw [if_neg h, if_pos (nI_le (by omega) hj)]
