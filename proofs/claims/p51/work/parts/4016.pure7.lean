/-! the other commands -/
theorem pu_T.same {X Y : pu_S} (h : pu_T X) (h1 : pA Y 1 = pA X 1) (h2 : pA Y 2 = pA X 2) (h4 : pA Y 4 = pA X 4) : pu_T Y := by
  unfold pu_T at *
  rw [h1, h2, h4]
  exact h
def pu_C (L : List Int32) (X : pu_S) (e : Int32 × (Nat → Int32)) : Prop := ∃ (z : Int32) (Y : pu_S), e = (z, pu_r Y) ∧ pu_I Y ∧ pu_T Y ∧ 60 * pA Y 1 + pA Y 2 = 60 * pA X 1 + pA X 2 ∧ (0 ≤ z ∨ z ∈ L)
theorem pu_C.no {L : List Int32} {X : pu_S} (h : pu_I X) (ht : pu_T X) {z : Int32} (hz : z ∈ L) : pu_C L X (z, pu_r X) := ⟨z, X, rfl, h, ht, rfl, Or.inr hz⟩
/-- what a command may answer below 0 -/
def ft_cd : Nat → List Int32
  | 0 => [-4]
  | 1 => [-1, -2, -4]
  | 2 => [-1, -2]
  | 3 => [-1, -2, -4]
  | 4 => [-1, -2, -4]
  | 5 => [-1, -2, -3, -4]
  | 6 => [-1, -2, -5]
  | _ => [-2]
theorem pu_openTruck {X : pu_S} (h : pu_I X) (ht : pu_T X) : pu_C (ft_cd 0) X (s_X4_openTruck (pu_r X)) := by
  unfold s_X4_openTruck
  have h6 := h.1.1
  rw [pu_rA (by omega)]
  by_cases h1 : pA X 0 < 6
  · rw [if_pos (show nI (pA X 0) < (6 : Int32) from nI_lt (b := 6) h1 (by decide)), nI_1, pu_uA (by omega)]
    refine ⟨_, uA X 0 (pA X 0 + 1), rfl, ?_, ht.same rfl rfl rfl, rfl, Or.inl (by rw [pu_rA (by omega), show pA (uA X 0 (pA X 0 + 1)) 0 = pA X 0 + 1 from uA_s, nI_pred]; exact nI_pos' (by omega))⟩
    obtain ⟨ha, hb, hc, hd, he, hf, hg, hh⟩ := h
    refine ⟨⟨?_, ha.2⟩, hb, hc, hd, fun t ht hge => he t ht ?_, fun i hi t hit => ⟨?_, (hf i hi t hit).2⟩, hg, hh⟩
    · show pA X 0 + 1 ≤ 6
      omega
    · have hge : pA X 0 + 1 ≤ t := hge
      omega
    · have := (hf i hi t hit).1
      show t < pA X 0 + 1
      omega
  · rw [if_neg (show ¬ nI (pA X 0) < (6 : Int32) from nI_nlt (b := 6) (by omega) (by omega))]
    exact pu_C.no h ht (by decide)
theorem pu_I.fld {X Y : pu_S} {j : Nat} (h : pu_I X) (hj : j < pA X 0) (hA : pA Y = pA X) (hP : pP Y = pP X) (hO : pO Y = pO X) (hH : pH Y = pH X) (hF : ∀ t, t ≠ j → ∀ k, pF Y t k = pF X t k) (hk : ∀ k, k ≠ 3 → (k < 4 ∨ 8 ≤ k) → pF Y j k = pF X j k) (hpo : ∀ d, d < 4 → pF X j (4 + d) ≤ pF Y j (4 + d) ∧ pF Y j (4 + d) ≤ 99) (h3 : pF Y j 3 < 128) (hb3 : ∀ i, i < 35 → pH X i = some j → pF Y j 3 / 2 ^ (i % 7) % 2 = 1) : pu_I Y := by
  obtain ⟨ha, hb, hc, hd, he, hf, hg, hh⟩ := h
  have h6 := ha.1
  have e0 : ∀ t, pF Y t 0 = pF X t 0 := fun t => by
    by_cases e : t = j
    · subst e; exact hk 0 (by omega) (by omega)
    · exact hF t e 0
  have e2 : ∀ t, pF Y t 2 = pF X t 2 := fun t => by
    by_cases e : t = j
    · subst e; exact hk 2 (by omega) (by omega)
    · exact hF t e 2
  refine ⟨by unfold pIa at *; rw [hA]; exact ha, ⟨by rw [hA, s6_eq (g := fun t => pF X t 2) (g' := fun t => pF Y t 2) (fun i _ => e2 i)]; exact hb.1, by rw [hA, hO]; exact hb.2.1, by rw [hA, s6_eq (g := fun t => pF X t 0) (g' := fun t => pF Y t 0) (fun i _ => e0 i)]; exact hb.2.2⟩, by unfold pIc at *; rw [hP]; exact hc, fun t ht => ?_, fun t ht hge => ?_, fun i hi t hit => ?_, by unfold pIg at *; rw [hH]; exact hg, fun t ht hno => ?_⟩
  · have := hd t ht
    by_cases e : t = j
    · subst e
      have w0 : ∀ i, pF Y t (8 + i) = pF X t (8 + i) := fun i => hk (8 + i) (by omega) (by omega)
      refine ⟨by rw [e2]; exact this.1, h3, fun d hd => (hpo d hd).2, fun i hi => by rw [e2] at hi; rw [w0]; exact this.2.2.2.1 i hi, fun h1 => ?_⟩
      rw [hk 1 (by omega) (by omega)] at h1 ⊢
      obtain ⟨g1, g2, g3⟩ := this.2.2.2.2 h1
      have w8 := this.2.2.2.1 0 g1
      have w8 : pF X t 8 < 4 := w8
      rw [e2, hk 8 (by omega) (by omega)]
      exact ⟨g1, g2, Nat.le_trans g3 (hpo _ w8).1⟩
    · have hk2 := hF t e
      refine ⟨by rw [hk2]; exact this.1, by rw [hk2]; exact this.2.1, fun d hd => by rw [hk2]; exact this.2.2.1 d hd, fun i hi => ?_, fun hi => ?_⟩
      · rw [hk2] at hi ⊢; exact this.2.2.2.1 i hi
      · rw [hk2] at hi
        rw [hk2 2, hk2 1, hk2 8, hk2]
        exact this.2.2.2.2 hi
  · rw [hA] at hge
    have e : t ≠ j := by omega
    have := he t ht hge
    exact ⟨by rw [hF t e]; exact this.1, by rw [hF t e]; exact this.2.1, fun d hd => by rw [hF t e]; exact this.2.2 d hd⟩
  · rw [hH] at hit
    rw [hA]
    refine ⟨(hf i hi t hit).1, ?_⟩
    by_cases e : t = j
    · subst e; exact hb3 i hi hit
    · rw [hF t e]; exact (hf i hi t hit).2
  · rw [hH, hA] at hno
    rw [e2]
    exact hh t ht hno
theorem pu_loadPortions {X : pu_S} (h : pu_I X) (ht : pu_T X) (x1 x2 x3 : Int32) : pu_C (ft_cd 1) X (s_X4_loadPortions (pu_r X) x1 x2 x3) := by
  unfold s_X4_loadPortions
  have h6 := h.1.1
  rcases pu_isTruck (X := X) h.1.1 x1 with h1 | ⟨t, h1, rfl⟩
  · rw [if_pos h1]; exact pu_C.no h ht (by decide)
  rw [pu_isTruck1 h.1.1 h1, if_neg (by decide)]
  rcases pu_isDish x2 with h2 | ⟨d, h2, rfl⟩
  · rw [if_pos h2]; exact pu_C.no h ht (by decide)
  rw [pu_isDish1 h2, if_neg (by decide)]
  by_cases h3 : x3 < 1
  · rw [if_pos h3]; exact pu_C.no h ht (by decide)
  rw [if_neg h3]
  by_cases h4 : x3 ≤ 50
  · rw [if_pos h4]
    obtain ⟨y, hy, rfl⟩ := nI_of2 (x := x3) (M := 50) (n := 50) rfl (by rw [Int32.lt_iff_toInt_lt] at h3 ⊢; exact fun q => h3 (by have : (0 : Int32).toInt = 0 := rfl; have : (1 : Int32).toInt = 1 := rfl; omega)) h4
    have hp := (h.2.2.2.1 t (by omega)).2.2.1 d h2
    rw [ft_tnI (show t < 2 ^ 31 by omega), ft_tnI (show d < 2 ^ 31 by omega), ft_ar_get (r := pu_r X) h2, Nat.add_assoc (51 + 17 * t) 4 d, pu_rF (by omega), nI_add]
    by_cases h5 : pF X t (4 + d) + y ≤ 99
    · rw [if_pos (show nI (pF X t (4 + d) + y) ≤ (99 : Int32) from nI_le (b := 99) h5 (by decide)), pu_uF (by omega)]
      refine ⟨_, uF X t (4 + d) (pF X t (4 + d) + y), rfl, pu_I.fld h h1 rfl rfl rfl rfl (fun t ht k => uF_t ht) (fun k k3 k48 => uF_k (by omega)) (fun d2 hd2 => ?_) ?_ (fun i hi hit => ?_), ht.same rfl rfl rfl, rfl, Or.inl (by rw [ft_ar_get h2, Nat.add_assoc (51 + 17 * t) 4 d, pu_rF (by omega), uF_s]; exact nI_pos' (by omega))⟩
      · by_cases e : d2 = d
        · subst e; rw [uF_s]; omega
        · rw [uF_k (by omega)]; exact ⟨Nat.le_refl _, (h.2.2.2.1 t (by omega)).2.2.1 d2 hd2⟩
      · rw [uF_k (by omega)]; exact (h.2.2.2.1 t (by omega)).2.1
      · rw [uF_k (by omega)]; exact (h.2.2.2.2.2.1 i hi t hit).2
    · rw [if_neg (show ¬ nI (pF X t (4 + d) + y) ≤ (99 : Int32) from nI_ge (a := 99) (by omega) (by omega))]; exact pu_C.no h ht (by decide)
  · rw [if_neg h4]; exact pu_C.no h ht (by decide)
theorem pu_changePrice {X : pu_S} (h : pu_I X) (ht : pu_T X) (x1 x2 : Int32) : pu_C (ft_cd 2) X (s_X4_changePrice (pu_r X) x1 x2) := by
  unfold s_X4_changePrice
  rcases pu_isDish x1 with h2 | ⟨d, h2, rfl⟩
  · rw [if_pos h2]; exact pu_C.no h ht (by decide)
  rw [pu_isDish1 h2, if_neg (by decide)]
  by_cases h3 : x2 < 1
  · rw [if_pos h3]; exact pu_C.no h ht (by decide)
  rw [if_neg h3]
  by_cases h4 : x2 ≤ 20
  · rw [if_pos h4]
    obtain ⟨y, hy, rfl⟩ := nI_of2 (x := x2) (M := 20) (n := 20) rfl (by rw [Int32.lt_iff_toInt_lt] at h3 ⊢; exact fun q => h3 (by have : (0 : Int32).toInt = 0 := rfl; have : (1 : Int32).toInt = 1 := rfl; omega)) h4
    rw [ft_tnI (show d < 2 ^ 31 by omega), pu_uP h2]
    have hp20 := h.2.2.1 d h2
    refine ⟨_, uP X d y, rfl, ?_, ht.same rfl rfl rfl, rfl, Or.inl (by rw [ft_ar_get h2, pu_rP h2]; exact nI_pos' (by omega))⟩
    obtain ⟨ha, hb, hc, hr⟩ := h
    refine ⟨ha, hb, fun d2 hd2 => ?_, hr⟩
    show va_up (pP X) d y d2 ≤ 20
    by_cases e : d2 = d
    · subst e; rw [va_up_self]; exact hy
    · rw [va_up_ne _ _ e]; exact hc d2 hd2
  · rw [if_neg h4]; exact pu_C.no h ht (by decide)
theorem pu_changeWeather {X : pu_S} (h : pu_I X) (ht : pu_T X) (x1 : Int32) : pu_C (ft_cd 7) X (s_X4_changeWeather (pu_r X) x1) := by
  unfold s_X4_changeWeather
  by_cases h3 : x1 < 0
  · rw [if_pos h3]; exact pu_C.no h ht (by decide)
  rw [if_neg h3]
  by_cases h4 : x1 ≤ 3
  · rw [if_pos h4]
    obtain ⟨y, hy, rfl⟩ := nI_of2 (x := x1) (M := 3) (n := 3) rfl h3 h4
    rw [pu_uA (by omega)]
    have hw3 := h.1.2
    exact ⟨_, uA X 3 y, rfl, h.scal rfl rfl hy rfl h.2.1, ht.same rfl rfl rfl, rfl, Or.inl (by rw [pu_rA (by omega)]; exact nI_pos' (by omega))⟩
  · rw [if_neg h4]; exact pu_C.no h ht (by decide)
theorem pu_givePermit {X : pu_S} (h : pu_I X) (ht : pu_T X) (x1 x2 : Int32) : pu_C (ft_cd 3) X (s_X4_givePermit (pu_r X) x1 x2) := by
  unfold s_X4_givePermit
  have h6 := h.1.1
  rcases pu_isTruck (X := X) h.1.1 x1 with h1 | ⟨t, h1, rfl⟩
  · rw [if_pos h1]; exact pu_C.no h ht (by decide)
  rw [pu_isTruck1 h.1.1 h1, if_neg (by decide)]
  rcases pu_isWeekday x2 with h2 | ⟨d, h2, rfl⟩
  · rw [if_pos h2]; exact pu_C.no h ht (by decide)
  have hm := (h.2.2.2.1 t (by omega)).2.1
  rw [pu_isWeekday1 h2, if_neg (by decide), ft_tnI (show t < 2 ^ 31 by omega), pu_isPermitted hm h2]
  by_cases h5 : pF X t 3 / 2 ^ d % 2 = 1
  · rw [if_pos h5, if_neg (by decide)]; exact pu_C.no h ht (by decide)
  · obtain ⟨e1, e2, e3⟩ := pu_bor hm h2 h5
    rw [if_neg h5, if_pos rfl, pu_rF (k := 3) (by omega), e1, pu_uF (by omega)]
    refine ⟨_, uF X t 3 (pF X t 3 + 2 ^ d), rfl, pu_I.fld h h1 rfl rfl rfl rfl (fun t ht k => uF_t ht) (fun k k3 _ => uF_k k3) (fun d2 hd2 => ?_) (by rw [uF_s]; exact e2) (fun i hi hit => ?_), ht.same rfl rfl rfl, rfl, Or.inl (by rw [pu_rF (by omega), uF_s]; exact pu_bc _ e2)⟩
    · rw [uF_k (by omega)]; exact ⟨Nat.le_refl _, (h.2.2.2.1 t (by omega)).2.2.1 d2 hd2⟩
    · rw [uF_s]
      exact (e3 _ (Nat.mod_lt _ (by decide))).mpr (Or.inr (h.2.2.2.2.2.1 i hi t hit).2)
theorem pu_count_L (r : Nat → Int32) (x : Int32) : ∀ (m a : Nat) (y : Int32), ∃ b, b ≤ a + m ∧ s_X4_countFor_L4 r x (fun y2_4 y3_4 => y2_4) m (nI a) y = nI b := by
  intro m
  induction m with
  | zero => intro a y; exact ⟨a, by omega, rfl⟩
  | succ m ih =>
    intro a y
    rw [s_X4_countFor_L4]
    split
    · exact ⟨a, by omega, rfl⟩
    · split
      · obtain ⟨b, h1, h2⟩ := ih a (y + 1); exact ⟨b, by omega, h2⟩
      · rw [nI_1]; obtain ⟨b, h1, h2⟩ := ih (a + 1) (y + 1); exact ⟨b, by omega, h2⟩
theorem pu_count0 (r : Nat → Int32) (x : Int32) : 0 ≤ s_X4_countFor r x := by
  obtain ⟨b, h1, h2⟩ := pu_count_L r x (tn 7 + 1) 0 0
  rw [nI_0] at h2
  have h7 : tn (7 : Int32) = 7 := rfl
  unfold s_X4_countFor
  rw [h2]
  exact nI_pos' (by omega)
theorem pu_holdPitch {X : pu_S} (h : pu_I X) (ht : pu_T X) (x1 x2 x3 : Int32) : pu_C (ft_cd 5) X (s_X4_holdPitch (pu_r X) x1 x2 x3) := by
  unfold s_X4_holdPitch
  have h6 := h.1.1
  rcases pu_isTruck (X := X) h.1.1 x1 with h1 | ⟨t, h1, rfl⟩
  · rw [if_pos h1]; exact pu_C.no h ht (by decide)
  rw [pu_isTruck1 h.1.1 h1, if_neg (by decide)]
  rcases pu_isPitch x2 with h2 | ⟨p, h2, rfl⟩
  · rw [if_pos h2]; exact pu_C.no h ht (by decide)
  rw [pu_isPitch1 h2, if_neg (by decide)]
  rcases pu_isWeekday x3 with h3 | ⟨d, h3, rfl⟩
  · rw [if_pos h3]; exact pu_C.no h ht (by decide)
  have hm := (h.2.2.2.1 t (by omega)).2.1
  rw [pu_isWeekday1 h3, if_neg (by decide), ft_tnI (show t < 2 ^ 31 by omega), pu_isPermitted hm h3]
  by_cases h5 : pF X t 3 / 2 ^ d % 2 = 1
  · rw [if_pos h5, if_neg (by decide), pu_holderOf h2 h3, show nI t = ft_he (some t) from rfl, pu_pitchHeldBy h3 h.h31 (fun y e => by cases e; omega)]
    cases hh : pH X (7 * p + d) with
    | some j =>
      have hj := h.h31 _ (by omega) j hh
      rw [if_neg (ft_he_n hj)]; exact pu_C.no h ht (by decide)
    | none =>
      rw [if_pos (show ft_he none = -1 from rfl)]
      cases hq : ft_ph (pH X) (some t) d with
      | some q =>
        have := (ft_ph_some hq).1
        rw [if_neg (ft_he_n (by omega))]; exact pu_C.no h ht (by decide)
      | none =>
        rw [if_pos (show ft_he none = -1 from rfl), pu_setHolder h2 h3]
        refine ⟨_, uH X (7 * p + d) (some t), rfl, ?_, ht.same rfl rfl rfl, rfl, Or.inl (pu_count0 _ _)⟩
        have hno := ft_ph_none hq
        obtain ⟨ha, hb, hc, hd, he, hf, hg, hh2⟩ := h
        have hHs : pH (uH X (7 * p + d) (some t)) (7 * p + d) = some t := va_up_self _ _ _
        have hHn : ∀ i, i ≠ 7 * p + d → pH (uH X (7 * p + d) (some t)) i = pH X i := fun i hi => va_up_ne _ _ hi
        refine ⟨ha, hb, hc, hd, he, fun i hi s his => ?_, fun a b e s k1 k2 k3 k4 k5 => ?_, fun s hs hns => hh2 s hs (fun a ha2 hcon => ?_)⟩
        · by_cases e : i = 7 * p + d
          · subst e
            rw [hHs] at his
            cases his
            have e7 : (7 * p + d) % 7 = d := by omega
            rw [e7]
            exact ⟨h1, h5⟩
          · rw [hHn i e] at his
            exact hf i hi s his
        · by_cases ea : 7 * a + e = 7 * p + d
          · rw [ea, hHs] at k4
            cases k4
            have hde : e = d := by omega
            subst hde
            by_cases eb : 7 * b + e = 7 * p + e
            · omega
            · rw [hHn _ eb] at k5
              exact absurd k5 (hno b k2)
          · rw [hHn _ ea] at k4
            by_cases eb : 7 * b + e = 7 * p + d
            · rw [eb, hHs] at k5
              cases k5
              have hde : e = d := by omega
              subst hde
              exact absurd k4 (hno a k1)
            · rw [hHn _ eb] at k5
              exact hg a b e s k1 k2 k3 k4 k5
        · have e : 7 * a + pA X 1 % 7 ≠ 7 * p + d := fun e => by rw [e, hh] at hcon; cases hcon
          exact hns a ha2 ((hHn _ e).trans hcon)
  · rw [if_neg h5, if_pos rfl]; exact pu_C.no h ht (by decide)
/-- an assignment ends: the holder's bit of that day may be gone already -/
theorem pu_endAssignment {X : pu_S} {p d j : Nat} (hp : p < 5) (hd7 : d < 7) (ha : pIa X) (hb : pIb X) (hc : pIc X) (hd : pId X) (he : pIe X) (hf : ∀ i, i < 35 → ∀ t, pH X i = some t → t < pA X 0 ∧ (i ≠ 7 * p + d → pF X t 3 / 2 ^ (i % 7) % 2 = 1)) (hg : pIg X) (hh : pIh X) (h1 : pA X 1 < 2 ^ 31) (hj : pH X (7 * p + d) = some j) : ∃ Y, s_X4_endAssignment (pu_r X) (nI p) (nI d) = pu_r Y ∧ pu_I Y ∧ (∀ k, k ≠ 6 → pA Y k = pA X k) ∧ pP Y = pP X ∧ pO Y = pO X ∧ pH Y = va_up (pH X) (7 * p + d) none ∧ (∀ t k, (t ≠ j ∨ (k ≠ 1 ∧ k ≠ 2)) → pF Y t k = pF X t k) ∧ (d = pA X 1 % 7 → pA Y 6 = pA X 6 + pF X j 2 ∧ pF Y j 2 = 0) ∧ (d ≠ pA X 1 % 7 → pA Y 6 = pA X 6 ∧ pF Y j 2 = pF X j 2) := by
  have h6 := ha.1
  have hj0 := (hf _ (by omega) j hj).1
  have hm7 := Nat.mod_lt (pA X 1) (show 0 < 7 by decide)
  have eset : s_X4_setHolder (pu_r X) (nI p) (nI d) (-1) = pu_r (uH X (7 * p + d) none) := pu_setHolder (t := none) hp hd7
  have hHs : pH (uH X (7 * p + d) none) (7 * p + d) = none := va_up_self _ _ _
  have hHn : ∀ i, i ≠ 7 * p + d → pH (uH X (7 * p + d) none) i = pH X i := fun i hi => va_up_ne _ _ hi
  have hHX : ∀ i t, pH (uH X (7 * p + d) none) i = some t → i ≠ 7 * p + d ∧ pH X i = some t := fun i t hit => by
    by_cases e : i = 7 * p + d
    · subst e; rw [hHs] at hit; cases hit
    · exact ⟨e, (hHn i e).symm.trans hit⟩
  have ef : pIf (uH X (7 * p + d) none) := fun i hi t hit => by
    obtain ⟨e, hx⟩ := hHX i t hit
    exact ⟨(hf i hi t hx).1, (hf i hi t hx).2 e⟩
  have eg : pIg (uH X (7 * p + d) none) := fun a b e t k1 k2 k3 k4 k5 => hg a b e t k1 k2 k3 (hHX _ _ k4).2 (hHX _ _ k5).2
  unfold s_X4_endAssignment
  rw [eset, pu_today (X := uH X (7 * p + d) none) h1, pu_holderOf hp hd7, hj]
  by_cases hday : d = pA X 1 % 7
  · rw [if_pos (show nI d = nI (pA (uH X (7 * p + d) none) 1 % 7) from congrArg nI hday), show ft_he (some j) = nI j from rfl, pu_isTruck1 (X := uH X (7 * p + d) none) ha.1 hj0, if_neg (by decide), ft_tnI (show j < 2 ^ 31 by omega), pu_send.1, pu_send.2, pu_rA (by omega), nI_add, pu_uA (by omega)]
    refine ⟨_, rfl, ?_⟩
    have f2 : pF (uA (uF (uF (uH X (7 * p + d) none) j 2 0) j 1 0) 6 (pA (uH X (7 * p + d) none) 6 + pF (uH X (7 * p + d) none) j 2)) j 2 = 0 := by
      show pF (uF (uF (uH X (7 * p + d) none) j 2 0) j 1 0) j 2 = 0
      rw [uF_k (by omega), uF_s]
    have f1 : pF (uA (uF (uF (uH X (7 * p + d) none) j 2 0) j 1 0) 6 (pA (uH X (7 * p + d) none) 6 + pF (uH X (7 * p + d) none) j 2)) j 1 = 0 := uF_s
    have ft : ∀ t k, (t ≠ j ∨ (k ≠ 1 ∧ k ≠ 2)) → pF (uA (uF (uF (uH X (7 * p + d) none) j 2 0) j 1 0) 6 (pA (uH X (7 * p + d) none) 6 + pF (uH X (7 * p + d) none) j 2)) t k = pF X t k := by
      intro t k hk
      show pF (uF (uF (uH X (7 * p + d) none) j 2 0) j 1 0) t k = _
      rcases hk with hk | hk
      · rw [uF_t hk, uF_t hk]; rfl
      · rw [uF_k hk.1, uF_k hk.2]; rfl
    have hA : ∀ k, k ≠ 6 → pA (uA (uF (uF (uH X (7 * p + d) none) j 2 0) j 1 0) 6 (pA (uH X (7 * p + d) none) 6 + pF (uH X (7 * p + d) none) j 2)) k = pA X k := fun k hk => va_up_ne _ _ hk
    have hA6 : pA (uA (uF (uF (uH X (7 * p + d) none) j 2 0) j 1 0) 6 (pA (uH X (7 * p + d) none) 6 + pF (uH X (7 * p + d) none) j 2)) 6 = pA X 6 + pF X j 2 := uA_s
    have hP : pP (uA (uF (uF (uH X (7 * p + d) none) j 2 0) j 1 0) 6 (pA (uH X (7 * p + d) none) 6 + pF (uH X (7 * p + d) none) j 2)) = pP X := rfl
    have hO : pO (uA (uF (uF (uH X (7 * p + d) none) j 2 0) j 1 0) 6 (pA (uH X (7 * p + d) none) 6 + pF (uH X (7 * p + d) none) j 2)) = pO X := rfl
    have hH : pH (uA (uF (uF (uH X (7 * p + d) none) j 2 0) j 1 0) 6 (pA (uH X (7 * p + d) none) 6 + pF (uH X (7 * p + d) none) j 2)) = pH (uH X (7 * p + d) none) := rfl
    generalize uA (uF (uF (uH X (7 * p + d) none) j 2 0) j 1 0) 6 (pA (uH X (7 * p + d) none) 6 + pF (uH X (7 * p + d) none) j 2) = Y at f2 f1 ft hA hA6 hP hO hH ⊢
    have hj6 : j < 6 := by omega
    obtain ⟨b1, b2, b3⟩ := hb
    have e2 : s6 (fun t => pF Y t 2) + pF X j 2 = s6 (fun t => pF X t 2) + 0 := s6_up hj6 f2 (fun i _ hi => ft i 2 (Or.inl hi))
    have e0 : s6 (fun t => pF Y t 0) = s6 (fun t => pF X t 0) := s6_eq (fun i _ => ft i 0 (Or.inr ⟨by omega, by omega⟩))
    refine ⟨⟨⟨by rw [hA 0 (by omega)]; exact ha.1, by rw [hA 3 (by omega)]; exact ha.2⟩, ⟨by rw [hA 4 (by omega), hA 5 (by omega), hA6, hA 7 (by omega)]; omega, by rw [hA 5 (by omega), hO]; exact b2, by rw [hA 5 (by omega), e0]; exact b3⟩, fun x hx => by rw [hP]; exact hc x hx, fun t ht => ?_, fun t ht hge => ?_, fun i hi t hit => ?_, by unfold pIg at *; rw [hH]; exact eg, fun t ht hno => ?_⟩, hA, hP, hO, hH, ft, fun _ => ⟨hA6, f2⟩, fun hne => absurd hday hne⟩
    · have := hd t ht
      by_cases e : t = j
      · subst e
        rw [f2, f1, ft t 3 (Or.inr ⟨by omega, by omega⟩)]
        exact ⟨by omega, this.2.1, fun x hx => by rw [ft t _ (Or.inr ⟨by omega, by omega⟩)]; exact this.2.2.1 x hx, fun i hi => absurd hi (Nat.not_lt_zero i), fun h0 => absurd h0 (Nat.lt_irrefl 0)⟩
      · have hk2 : ∀ k, pF Y t k = pF X t k := fun k => ft t k (Or.inl e)
        refine ⟨by rw [hk2]; exact this.1, by rw [hk2]; exact this.2.1, fun d hd => by rw [hk2]; exact this.2.2.1 d hd, fun i hi => ?_, fun hi => ?_⟩
        · rw [hk2] at hi ⊢; exact this.2.2.2.1 i hi
        · rw [hk2] at hi
          rw [hk2 2, hk2 1, hk2 8, hk2]
          exact this.2.2.2.2 hi
    · rw [hA 0 (by omega)] at hge
      have e : t ≠ j := by omega
      have := he t ht hge
      exact ⟨by rw [ft t 0 (Or.inl e)]; exact this.1, by rw [ft t 2 (Or.inl e)]; exact this.2.1, fun x hx => by rw [ft t _ (Or.inl e)]; exact this.2.2 x hx⟩
    · rw [hH] at hit
      have := ef i hi t hit
      exact ⟨by rw [hA 0 (by omega)]; exact this.1, by rw [ft t 3 (Or.inr ⟨by omega, by omega⟩)]; exact this.2⟩
    · by_cases e : t = j
      · subst e; exact f2
      · rw [ft t 2 (Or.inl e)]
        refine hh t ht (fun a ha2 hcon => ?_)
        rw [hA 1 (by omega)] at hno
        by_cases ei : 7 * a + pA X 1 % 7 = 7 * p + d
        · rw [ei, hj] at hcon
          exact e (Option.some.inj hcon).symm
        · exact hno a ha2 (by rw [hH, hHn _ ei]; exact hcon)
  · rw [if_neg (show ¬ nI d = nI (pA (uH X (7 * p + d) none) 1 % 7) from fun e => hday ((nI_eq (by omega) (by have : pA (uH X (7 * p + d) none) 1 % 7 < 7 := hm7; omega)).mp e))]
    refine ⟨_, rfl, ⟨ha, hb, hc, hd, he, ef, eg, fun t ht hno => hh t ht (fun a ha2 hcon => hno a ha2 ((hHn _ (fun e => hday (by have e1 : pA (uH X (7 * p + d) none) 1 = pA X 1 := rfl; rw [e1] at e; omega))).trans hcon))⟩, fun _ _ => rfl, rfl, rfl, rfl, fun _ _ _ => rfl, fun e => absurd e hday, fun _ => ⟨rfl, rfl⟩⟩
theorem pu_leavePitch {X : pu_S} (h : pu_I X) (ht : pu_T X) (h31 : pA X 1 < 2 ^ 31) (x1 x2 : Int32) : pu_C (ft_cd 6) X (s_X4_leavePitch (pu_r X) x1 x2) := by
  unfold s_X4_leavePitch
  rcases pu_isPitch x1 with h1 | ⟨p, h1, rfl⟩
  · rw [if_pos h1]; exact pu_C.no h ht (by decide)
  rw [pu_isPitch1 h1, if_neg (by decide)]
  rcases pu_isWeekday x2 with h2 | ⟨d, h2, rfl⟩
  · rw [if_pos h2]; exact pu_C.no h ht (by decide)
  rw [pu_isWeekday1 h2, if_neg (by decide), pu_holderOf h1 h2]
  cases hh : pH X (7 * p + d) with
  | none => rw [if_pos (show ft_he none = -1 from rfl)]; exact pu_C.no h ht (by decide)
  | some j =>
    have hj := h.h31 _ (by omega) j hh
    rw [if_neg (ft_he_n hj)]
    obtain ⟨ha, hb, hc, hd, he, hf, hg, hh2⟩ := h
    obtain ⟨Y, y1, y2, y3, -⟩ := pu_endAssignment h1 h2 ha hb hc hd he (fun i hi t hit => ⟨(hf i hi t hit).1, fun _ => (hf i hi t hit).2⟩) hg hh2 h31 hh
    rw [y1]
    exact ⟨_, Y, rfl, y2, ht.same (y3 1 (by omega)) (y3 2 (by omega)) (y3 4 (by omega)), by rw [y3 1 (by omega), y3 2 (by omega)], Or.inl (nI_pos' hj)⟩
theorem pu_takePermit {X : pu_S} (h : pu_I X) (ht : pu_T X) (h31 : pA X 1 < 2 ^ 31) (x1 x2 : Int32) : pu_C (ft_cd 4) X (s_X4_takePermit (pu_r X) x1 x2) := by
  unfold s_X4_takePermit
  have h6 := h.1.1
  rcases pu_isTruck (X := X) h.1.1 x1 with h1 | ⟨t, h1, rfl⟩
  · rw [if_pos h1]; exact pu_C.no h ht (by decide)
  rw [pu_isTruck1 h.1.1 h1, if_neg (by decide)]
  rcases pu_isWeekday x2 with h2 | ⟨d, h2, rfl⟩
  · rw [if_pos h2]; exact pu_C.no h ht (by decide)
  have hm := (h.2.2.2.1 t (by omega)).2.1
  rw [pu_isWeekday1 h2, if_neg (by decide), ft_tnI (show t < 2 ^ 31 by omega), pu_isPermitted hm h2]
  by_cases h5 : pF X t 3 / 2 ^ d % 2 = 1
  · obtain ⟨e1, e2, e3⟩ := pu_band hm h2 h5
    rw [if_pos h5, if_neg (by decide), pu_rF (k := 3) (by omega), e1, pu_uF (by omega), show nI t = ft_he (some t) from rfl, pu_pitchHeldBy (X := uF X t 3 (pF X t 3 - 2 ^ d)) h2 h.h31 (fun y e => by cases e; omega)]
    have hk : ∀ s k, (s ≠ t ∨ k ≠ 3) → pF (uF X t 3 (pF X t 3 - 2 ^ d)) s k = pF X s k := fun s k hsk => by
      rcases hsk with e | e
      · exact uF_t e
      · exact uF_k e
    have h3 : pF (uF X t 3 (pF X t 3 - 2 ^ d)) t 3 = pF X t 3 - 2 ^ d := uF_s
    cases hq : ft_ph (pH (uF X t 3 (pF X t 3 - 2 ^ d))) (some t) d with
    | none =>
      have hno := ft_ph_none hq
      rw [if_pos (show ft_he none = -1 from rfl)]
      refine ⟨_, _, rfl, pu_I.fld h h1 rfl rfl rfl rfl (fun s hs k => hk s k (Or.inl hs)) (fun k k3 _ => hk t k (Or.inr k3)) (fun d2 hd2 => ?_) (by rw [h3]; exact e2) (fun i hi hit => ?_), ht.same rfl rfl rfl, rfl, Or.inl (by decide)⟩
      · rw [hk t _ (Or.inr (by omega))]; exact ⟨Nat.le_refl _, (h.2.2.2.1 t (by omega)).2.2.1 d2 hd2⟩
      · rw [h3]
        refine (e3 _ (Nat.mod_lt _ (by decide))).mpr ⟨fun e => ?_, (h.2.2.2.2.2.1 i hi t hit).2⟩
        refine hno (i / 7) (by omega) ?_
        have ei : 7 * (i / 7) + d = i := by omega
        rw [ei]
        exact hit
    | some q =>
      obtain ⟨hq5, hqt, -⟩ := ft_ph_some hq
      have hqt : pH X (7 * q + d) = some t := hqt
      rw [if_neg (ft_he_n (by omega))]
      obtain ⟨ha, hb, hc, hd, he, hf, hg, hh⟩ := h
      have hd' : pId (uF X t 3 (pF X t 3 - 2 ^ d)) := fun s hs => by
        have := hd s hs
        rw [hk s 2 (Or.inr (by omega)), hk s 1 (Or.inr (by omega)), hk s 8 (Or.inr (by omega))]
        refine ⟨this.1, ?_, fun x hx => by rw [hk s _ (Or.inr (by omega))]; exact this.2.2.1 x hx, fun i hi => by rw [hk s _ (Or.inr (by omega))]; exact this.2.2.2.1 i hi, fun h0 => by rw [hk s _ (Or.inr (by omega))]; exact this.2.2.2.2 h0⟩
        by_cases e : s = t
        · subst e; rw [h3]; exact e2
        · rw [hk s 3 (Or.inl e)]; exact this.2.1
      obtain ⟨Y, y1, y2, y3, -⟩ := pu_endAssignment (X := uF X t 3 (pF X t 3 - 2 ^ d)) (p := q) (d := d) (j := t) hq5 h2 ha ⟨by rw [s6_eq (g := fun s => pF X s 2) (g' := fun s => pF (uF X t 3 (pF X t 3 - 2 ^ d)) s 2) (fun i _ => hk i 2 (Or.inr (by omega)))]; exact hb.1, hb.2.1, by rw [s6_eq (g := fun s => pF X s 0) (g' := fun s => pF (uF X t 3 (pF X t 3 - 2 ^ d)) s 0) (fun i _ => hk i 0 (Or.inr (by omega)))]; exact hb.2.2⟩ hc hd' (fun s hs hge => by have := he s hs hge; exact ⟨by rw [hk s 0 (Or.inr (by omega))]; exact this.1, by rw [hk s 2 (Or.inr (by omega))]; exact this.2.1, fun x hx => by rw [hk s _ (Or.inr (by omega))]; exact this.2.2 x hx⟩) (fun i hi s his => ⟨(hf i hi s his).1, fun hne => by
          by_cases e : s = t
          · subst e
            rw [h3]
            refine (e3 _ (Nat.mod_lt _ (by decide))).mpr ⟨fun e => ?_, (hf i hi s his).2⟩
            have ei : 7 * (i / 7) + d = i := by omega
            have his2 : pH X (7 * (i / 7) + d) = some s := by rw [ei]; exact his
            have := hg (i / 7) q d s (by omega) hq5 h2 his2 hqt
            omega
          · rw [hk s 3 (Or.inl e)]; exact (hf i hi s his).2⟩) hg (fun s hs hno => by rw [hk s 2 (Or.inr (by omega))]; exact hh s hs hno) h31 hqt
      rw [show ft_he (some q) = nI q from rfl, y1]
      exact ⟨_, Y, rfl, y2, ht.same (y3 1 (by omega)) (y3 2 (by omega)) (y3 4 (by omega)), by rw [y3 1 (by omega), y3 2 (by omega)]; rfl, Or.inl (by decide)⟩
  · rw [if_neg h5, if_pos rfl]; exact pu_C.no h ht (by decide)
/-- every command keeps the invariant -/
def pu_D (c : Nat) (X : pu_S) (e : Int32 × (Nat → Int32)) : Prop := ∃ (z : Int32) (Y : pu_S), e = (z, pu_r Y) ∧ pu_I Y ∧ pu_T Y ∧ 60 * pA X 1 + pA X 2 ≤ 60 * pA Y 1 + pA Y 2 ∧ 60 * pA Y 1 + pA Y 2 ≤ 60 * pA X 1 + pA X 2 + 60 ∧ (c < 8 → 60 * pA Y 1 + pA Y 2 = 60 * pA X 1 + pA X 2) ∧ (0 ≤ z ∨ z ∈ ft_cd c)
theorem pu_C.d {c : Nat} {X : pu_S} {e : Int32 × (Nat → Int32)} (h : pu_C (ft_cd c) X e) : pu_D c X e := by
  obtain ⟨z, Y, h1, h2, h3, h4, h5⟩ := h
  exact ⟨z, Y, h1, h2, h3, by omega, by omega, fun _ => h4, h5⟩
theorem pu_s4mono {g g' : Nat → Nat} (h : ∀ d, d < 4 → g d ≤ g' d) : s4 g ≤ s4 g' := by
  unfold s4
  have h0 := h 0 (by omega)
  have h1 := h 1 (by omega)
  have h2 := h 2 (by omega)
  have h3 := h 3 (by omega)
  omega
theorem pu_wait {X : pu_S} (h : pu_I X) (ht : pu_T X) (hb : 60 * pA X 1 + pA X 2 < 10000000) (c : Nat) (hc : 8 ≤ c) (x2 x3 x4 : Int32) : pu_D c X (s_X4_carryOut_8 (pu_r X) x2 x3 x4) := by
  obtain ⟨k, rfl⟩ : ∃ k, c = k + 8 := ⟨c - 8, by omega⟩
  have no : pu_D (k + 8) X (-2, pu_r X) := ⟨_, X, rfl, h, ht, Nat.le_refl _, by omega, fun _ => rfl, Or.inr (List.mem_cons_self)⟩
  unfold s_X4_carryOut_8 s_X4_isWait
  by_cases h1 : x2 < 1
  · rw [if_pos h1, if_pos rfl]; exact no
  · rw [if_neg h1]
    by_cases h2 : 60 < x2
    · rw [if_pos h2, if_pos rfl]; exact no
    · rw [if_neg h2, if_neg (by decide)]
      have h3 : x2 ≤ 60 := by rw [Int32.le_iff_toInt_le]; rw [Int32.lt_iff_toInt_lt] at h2; omega
      obtain ⟨y, hy, rfl⟩ := nI_of2 (x := x2) (M := 60) (n := 60) rfl (by rw [Int32.lt_iff_toInt_lt] at h1 ⊢; exact fun q => h1 (by have : (0 : Int32).toInt = 0 := rfl; have : (1 : Int32).toInt = 1 := rfl; omega)) h3
      obtain ⟨Y, y1, y2, y3, y4, y5, -⟩ := pu_pass (M := y) (by omega) h ht hb
      have e5 : pA X 5 ≤ pA Y 5 := by rw [h.2.1.2.1, y2.2.1.2.1]; exact pu_s4mono (fun d hd => (y4.2.1 d hd).2)
      have e6 := y2.2.1.1
      have e7 := y3.2
      rw [y1]
      exact ⟨_, Y, rfl, y2, y3, by omega, by omega, fun hlt => by omega, Or.inl (by show 0 ≤ nI (pA Y 5) - nI (pA X 5); rw [pk_sub e5]; exact nI_pos' (by omega))⟩
theorem pu_carry {X : pu_S} (h : pu_I X) (ht : pu_T X) (hb : 60 * pA X 1 + pA X 2 < 10000000) (c : Nat) (x2 x3 x4 : Int32) : pu_D c X (s_X4_carryOut c (pu_r X) x2 x3 x4) := by
  have h31 : pA X 1 < 2 ^ 31 := by omega
  match c with
  | 0 => exact (pu_openTruck h ht).d
  | 1 => exact (pu_loadPortions h ht x2 x3 x4).d
  | 2 => exact (pu_changePrice h ht x2 x3).d
  | 3 => exact (pu_givePermit h ht x2 x3).d
  | 4 => exact (pu_takePermit h ht h31 x2 x3).d
  | 5 => exact (pu_holdPitch h ht x2 x3 x4).d
  | 6 => exact (pu_leavePitch h ht h31 x2 x3).d
  | 7 => exact (pu_changeWeather h ht x2).d
  | n + 8 => exact pu_wait h ht hb (n + 8) (by omega) x2 x3 x4
