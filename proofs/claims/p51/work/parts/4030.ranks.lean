/-! ranks: a count of those ahead -/
def cN (p : Nat → Bool) (n : Nat) : Nat := sN (fun u => if p u = true then 1 else 0) n
theorem mx_ex {K : Nat → Nat} {p : Nat → Prop} [DecidablePred p] : ∀ (n : Nat), (∃ u, u < n ∧ p u) → ∃ u, u < n ∧ p u ∧ ∀ w, w < n → p w → K w ≤ K u := by
  intro n
  induction n with
  | zero => rintro ⟨u, hu, -⟩; exact absurd hu (Nat.not_lt_zero u)
  | succ n ih =>
    rintro ⟨u, hu, hp⟩
    by_cases h : ∃ u, u < n ∧ p u
    · obtain ⟨v, hv, hpv, hm⟩ := ih h
      by_cases hn : p n ∧ K v < K n
      · refine ⟨n, by omega, hn.1, fun w hw hpw => ?_⟩
        by_cases e : w = n
        · subst e; exact Nat.le_refl _
        · have := hm w (by omega) hpw
          omega
      · refine ⟨v, by omega, hpv, fun w hw hpw => ?_⟩
        by_cases e : w = n
        · subst e
          exact Nat.not_lt.mp (fun q => hn ⟨hpw, q⟩)
        · exact hm w (by omega) hpw
    · have hun : u = n := by
        by_cases e : u = n
        · exact e
        · exact absurd ⟨u, by omega, hp⟩ h
      subst hun
      refine ⟨u, by omega, hp, fun w hw hpw => ?_⟩
      by_cases e : w = u
      · subst e; exact Nat.le_refl _
      · exact absurd ⟨w, by omega, hpw⟩ h
def rk (K : Nat → Nat) (n t : Nat) : Nat := sN (fun u => if K t < K u then 1 else 0) n
theorem sN_one : ∀ {n : Nat}, sN (fun _ => 1) n = n := by
  intro n
  induction n with
  | zero => rfl
  | succ n ih => show sN (fun _ => 1) n + 1 = n + 1; rw [ih]
theorem rk_tri {K : Nat → Nat} {n t : Nat} (hK : ∀ u w, u < n → w < n → K u = K w → u = w) (ht : t < n) : n = rk K n t + 1 + sN (fun u => if K u < K t then 1 else 0) n := by
  have e1 : sN (fun u => if t = u then 1 else 0) n = 1 := by rw [sN_ind, if_pos ht]
  have e2 : sN (fun u => ((if K t < K u then 1 else 0) + (if t = u then 1 else 0)) + (if K u < K t then 1 else 0)) n = n := by
    refine Eq.trans (sN_congr (g := fun _ => 1) (fun u hu => ?_)) sN_one
    by_cases h1 : K t < K u
    · rw [if_pos h1, if_neg (show ¬ t = u from fun e => by subst e; omega), if_neg (by omega)]
    · by_cases h2 : K u < K t
      · rw [if_neg h1, if_neg (show ¬ t = u from fun e => by subst e; omega), if_pos h2]
      · rw [if_neg h1, if_pos (hK t u ht hu (by omega)), if_neg h2]
  have e3 := sN_add (f := fun u => ((if K t < K u then 1 else 0) + (if t = u then 1 else 0))) (g := fun u => if K u < K t then 1 else 0) (n := n)
  have e4 := sN_add (f := fun u => (if K t < K u then 1 else 0)) (g := fun u => if t = u then 1 else 0) (n := n)
  unfold rk
  omega
theorem rk_lt {K : Nat → Nat} {n t : Nat} (hK : ∀ u w, u < n → w < n → K u = K w → u = w) (ht : t < n) : rk K n t < n := by
  have := rk_tri hK ht
  omega
theorem rk_ex {K : Nat → Nat} {n : Nat} (hK : ∀ u w, u < n → w < n → K u = K w → u = w) : ∀ i, i < n → ∃ t, t < n ∧ rk K n t = i := by
  intro i
  induction i with
  | zero =>
    intro hi
    obtain ⟨t, ht, -, hm⟩ := mx_ex (K := K) (p := fun _ => True) n ⟨0, hi, trivial⟩
    refine ⟨t, ht, ?_⟩
    exact (sN_congr (g := fun _ => 0) (fun u hu => if_neg (by have := hm u hu trivial; omega))).trans sN_zero
  | succ i ih =>
    intro hi
    obtain ⟨t, ht, hr⟩ := ih (by omega)
    have h3 := rk_tri hK ht
    have hex : ∃ u, u < n ∧ K u < K t := by
      by_cases h : ∃ u, u < n ∧ K u < K t
      · exact h
      · have e : sN (fun u => if K u < K t then 1 else 0) n = 0 := (sN_congr (g := fun _ => 0) (fun u hu => if_neg (fun q => h ⟨u, hu, q⟩))).trans sN_zero
        omega
    obtain ⟨u, hu, hp, hm⟩ := mx_ex (K := K) (p := fun u => K u < K t) n hex
    refine ⟨u, hu, ?_⟩
    have e1 : sN (fun w => if t = w then 1 else 0) n = 1 := by rw [sN_ind, if_pos ht]
    have e2 : rk K n u = sN (fun w => (if K t < K w then 1 else 0) + (if t = w then 1 else 0)) n := by
      unfold rk
      refine sN_congr (fun w hw => ?_)
      by_cases h1 : K u < K w
      · rw [if_pos h1]
        by_cases h2 : K w < K t
        · have := hm w hw h2; omega
        · by_cases h4 : K t < K w
          · rw [if_pos h4, if_neg (show ¬ t = w from fun e => by subst e; omega)]
          · rw [if_neg h4, if_pos (hK t w ht hw (by omega))]
      · rw [if_neg h1, if_neg (by omega), if_neg (show ¬ t = w from fun e => by subst e; omega)]
    have e4 := sN_add (f := fun u => (if K t < K u then 1 else 0)) (g := fun u => if t = u then 1 else 0) (n := n)
    unfold rk at hr e2 ⊢
    omega
/-- who is behind in the count is behind in the key -/
theorem rk_key {K : Nat → Nat} {n t u : Nat} (hK : ∀ u w, u < n → w < n → K u = K w → u = w) (ht : t < n) (hu : u < n) (h : rk K n t < rk K n u) : K u < K t := by
  by_cases h1 : K u < K t
  · exact h1
  · by_cases h2 : K t = K u
    · have : t = u := hK t u ht hu h2
      subst this
      omega
    · have hle : rk K n u ≤ rk K n t := by
        unfold rk
        have : ∀ m, m ≤ n → sN (fun w => if K u < K w then 1 else 0) m ≤ sN (fun w => if K t < K w then 1 else 0) m := by
          intro m
          induction m with
          | zero => intro _; exact Nat.le_refl _
          | succ m ih =>
            intro hm
            have h5 := ih (by omega)
            show sN (fun w => if K u < K w then 1 else 0) m + (if K u < K m then 1 else 0) ≤ sN (fun w => if K t < K w then 1 else 0) m + (if K t < K m then 1 else 0)
            by_cases h3 : K u < K m
            · rw [if_pos h3, if_pos (by omega)]; omega
            · rw [if_neg h3]; omega
        exact this n (Nat.le_refl n)
      omega
/-! the trucks' keys -/
def sP (X : pu_S) (t : Nat) : Nat := s4 (fun d => pF X t (4 + d))
def kT (X : pu_S) (t : Nat) : Nat := (pF X t 0 * 400 + sP X t) * 8 + (7 - t)
theorem sP_le {X : pu_S} (h : pu_I X) {t : Nat} (ht : t < 6) : sP X t ≤ 396 := by
  have h4 := (h.2.2.2.1 t ht).2.2.1
  have h0 := h4 0 (by omega)
  have h1 := h4 1 (by omega)
  have h2 := h4 2 (by omega)
  have h3 := h4 3 (by omega)
  show pF X t (4 + 0) + pF X t (4 + 1) + pF X t (4 + 2) + pF X t (4 + 3) ≤ 396
  omega
theorem kT_inj {X : pu_S} {n : Nat} (hn : n ≤ 6) : ∀ u w, u < n → w < n → kT X u = kT X w → u = w := by
  intro u w hu hw h
  unfold kT at h
  omega
theorem pu_sumP_L {X : pu_S} {t : Nat} : ∀ (n i m : Nat), i + n = 4 → n < m → s_X6_sumOfPortions_L4 (pu_r X) (51 + 17 * t) (fun y1_4 y2_4 => y1_4) m (nI (sN (fun d => pF X t (4 + d)) i)) (nI i) = nI (sN (fun d => pF X t (4 + d)) 4) := by
  intro n
  induction n with
  | zero =>
    intro i m hi hm
    obtain ⟨m, rfl⟩ : ∃ q, m = q + 1 := ⟨m - 1, by omega⟩
    obtain rfl : i = 4 := by omega
    rw [s_X6_sumOfPortions_L4, if_pos (by decide)]
  | succ n ih =>
    intro i m hi hm
    obtain ⟨m, rfl⟩ : ∃ q, m = q + 1 := ⟨m - 1, by omega⟩
    rw [s_X6_sumOfPortions_L4, if_neg (show ¬ (4 : Int32) ≤ nI i from (nI_geI (a := 4) (by decide) (by omega)).mpr (by omega)), ft_tnI (show i < 2 ^ 31 by omega), ft_ar_get (by omega), Nat.add_assoc (51 + 17 * t) 4 i, pu_rF (by omega), nI_add, nI_1]
    exact ih (i + 1) m (by omega) (by omega)
theorem pu_sumP {X : pu_S} {t : Nat} : s_X6_sumOfPortions (pu_r X) (51 + 17 * t) = nI (sP X t) := by
  have e := pu_sumP_L (X := X) (t := t) 4 0 (tn 4 + 1) rfl (by decide)
  rw [show sN (fun d => pF X t (4 + d)) 0 = 0 from rfl, nI_0, sN_4] at e
  exact e
theorem pu_stk_L {X : pu_S} {t : Nat} (h : pIa X) (ht : t < pA X 0) : ∀ (n i m : Nat), i + n = 4 → n < m → s_L_stocks_L4 (pu_r X) (nI t) (fun y2_4 y3_4 => y2_4) m (nI (sN (fun d => pF X t (4 + d)) i)) (nI i) = nI (sN (fun d => pF X t (4 + d)) 4) := by
  intro n
  induction n with
  | zero =>
    intro i m hi hm
    obtain ⟨m, rfl⟩ : ∃ q, m = q + 1 := ⟨m - 1, by omega⟩
    obtain rfl : i = 4 := by omega
    rw [s_L_stocks_L4, if_pos (by decide)]
  | succ n ih =>
    intro i m hi hm
    obtain ⟨m, rfl⟩ : ∃ q, m = q + 1 := ⟨m - 1, by omega⟩
    rw [s_L_stocks_L4, if_neg (show ¬ (4 : Int32) ≤ nI i from (nI_geI (a := 4) (by decide) (by omega)).mpr (by omega)), v_stock h ht (by omega), nI_add, nI_1]
    exact ih (i + 1) m (by omega) (by omega)
theorem v_stocks {X : pu_S} {t : Nat} (h : pIa X) (ht : t < pA X 0) : s_L_stocks (pu_r X) (nI t) = nI (sP X t) := by
  have e := pu_stk_L h ht 4 0 (tn 4 + 1) rfl (by decide)
  rw [show sN (fun d => pF X t (4 + d)) 0 = 0 from rfl, nI_0, sN_4] at e
  exact e
theorem pu_rb {X : pu_S} {t u : Nat} (ht : pF X t 0 < 2 ^ 31) (hu : pF X u 0 < 2 ^ 31) (st : sP X t < 400) (su : sP X u < 400) : s_X6_ranksBefore (pu_r X) (51 + 17 * t) (pu_r X) (51 + 17 * u) = 0 ↔ pF X t 0 * 400 + sP X t ≤ pF X u 0 * 400 + sP X u := by
  unfold s_X6_ranksBefore
  rw [pu_rF (by omega), pu_rF (by omega), pu_sumP, pu_sumP]
  by_cases h1 : pF X t 0 = pF X u 0
  · rw [if_pos (congrArg nI h1)]
    by_cases h2 : sP X t ≤ sP X u
    · rw [if_pos (nI_le h2 (by omega))]
      exact ⟨fun _ => by omega, fun _ => rfl⟩
    · rw [if_neg ((nI_geI (by omega) (by omega)).mpr (by omega))]
      exact ⟨fun e => absurd e (by decide), fun e => by omega⟩
  · rw [if_neg (fun e => h1 ((nI_eq ht hu).mp e))]
    by_cases h2 : pF X t 0 ≤ pF X u 0
    · rw [if_pos (nI_le h2 hu)]
      exact ⟨fun _ => by omega, fun _ => rfl⟩
    · rw [if_neg ((nI_geI ht hu).mpr (by omega))]
      exact ⟨fun e => absurd e (by decide), fun e => by omega⟩
def rkT (X : pu_S) (t : Nat) : Nat := rk (kT X) (pA X 0) t
theorem pu_rank_L {X : pu_S} {t : Nat} (h : pu_I X) (he : ∀ t, t < 6 → pF X t 0 < 2 ^ 31) (ht : t < pA X 0) : ∀ (n i m : Nat), i + n = pA X 0 → n < m → s_X4_rankOf_L14 (pu_r X) (nI t) (fun y2_14 y3_14 => y2_14) m (nI (sN (fun u => if kT X t < kT X u then 1 else 0) i)) (nI i) = nI (rkT X t) := by
  have h6 := h.1.1
  intro n
  induction n with
  | zero =>
    intro i m hi hm
    obtain ⟨m, rfl⟩ : ∃ q, m = q + 1 := ⟨m - 1, by omega⟩
    obtain rfl : i = pA X 0 := by omega
    rw [s_X4_rankOf_L14, pu_rA (by omega), if_pos (Int32.le_refl _)]
    rfl
  | succ n ih =>
    intro i m hi hm
    obtain ⟨m, rfl⟩ : ∃ q, m = q + 1 := ⟨m - 1, by omega⟩
    have hst := sP_le h (show t < 6 by omega)
    have hsi := sP_le h (show i < 6 by omega)
    have het := he t (by omega)
    have hei := he i (by omega)
    have b1 := pu_rb (X := X) (t := i) (u := t) hei het (by omega) (by omega)
    have b2 := pu_rb (X := X) (t := t) (u := i) het hei (by omega) (by omega)
    have hs : sN (fun u => if kT X t < kT X u then 1 else 0) (i + 1) = sN (fun u => if kT X t < kT X u then 1 else 0) i + (if kT X t < kT X i then 1 else 0) := rfl
    have hn := ih (i + 1) m (by omega) (by omega)
    rw [hs] at hn
    rw [s_X4_rankOf_L14, pu_rA (by omega), if_neg ((nI_geI (by omega) (by omega)).mpr (by omega)), if_neg (show ¬ (6 : Int32) ≤ nI i from (nI_geI (a := 6) (by decide) (by omega)).mpr (by omega)), ft_tnI (show i < 2 ^ 31 by omega), ft_tnI (show t < 2 ^ 31 by omega), nI_1, nI_1]
    by_cases h1 : t ≤ i
    · rw [if_pos (nI_le h1 (by omega))]
      by_cases h2 : s_X6_ranksBefore (pu_r X) (51 + 17 * i) (pu_r X) (51 + 17 * t) = 0
      · rw [if_pos h2]
        have h3 := b1.mp h2
        rw [if_neg (by unfold kT; omega)] at hn
        exact hn
      · rw [if_neg h2]
        have h3 : ¬ (pF X i 0 * 400 + sP X i ≤ pF X t 0 * 400 + sP X t) := fun q => h2 (b1.mpr q)
        rw [if_pos (by unfold kT; omega)] at hn
        exact hn
    · rw [if_neg ((nI_geI (by omega) (by omega)).mpr (by omega))]
      by_cases h2 : s_X6_ranksBefore (pu_r X) (51 + 17 * t) (pu_r X) (51 + 17 * i) = 0
      · rw [if_pos h2]
        have h3 := b2.mp h2
        rw [if_pos (by unfold kT; omega)] at hn
        exact hn
      · rw [if_neg h2]
        have h3 : ¬ (pF X t 0 * 400 + sP X t ≤ pF X i 0 * 400 + sP X i) := fun q => h2 (b2.mpr q)
        rw [if_neg (by unfold kT; omega)] at hn
        exact hn
theorem pu_rankOf {X : pu_S} {t : Nat} (h : pu_I X) (he : ∀ t, t < 6 → pF X t 0 < 2 ^ 31) (ht : t < pA X 0) : s_X4_rankOf (pu_r X) (nI t) = nI (rkT X t) := by
  have h6 := h.1.1
  have e := pu_rank_L h he ht (pA X 0) 0 (tn (pu_r X 0) + 1) (by omega) (by rw [pu_rA (by omega), ft_tnI (by omega)]; omega)
  rw [show sN (fun u => if kT X t < kT X u then 1 else 0) 0 = 0 from rfl, nI_0] at e
  unfold s_X4_rankOf
  rw [pu_isTruck1 h6 ht, if_neg (by decide)]
  exact e
theorem pu_ranked_L {X : pu_S} (h : pu_I X) (he : ∀ t, t < 6 → pF X t 0 < 2 ^ 31) (x : Int32) : ∀ (n i m : Nat), i + n = pA X 0 → n < m → (∃ t, i ≤ t ∧ t < pA X 0 ∧ nI (rkT X t) = x ∧ s_X4_truckRanked_L2 (pu_r X) x (fun _ => (-1)) m (nI i) = nI t) ∨ ((∀ t, i ≤ t → t < pA X 0 → ¬ nI (rkT X t) = x) ∧ s_X4_truckRanked_L2 (pu_r X) x (fun _ => (-1)) m (nI i) = -1) := by
  have h6 := h.1.1
  intro n
  induction n with
  | zero =>
    intro i m hi hm
    obtain ⟨m, rfl⟩ : ∃ q, m = q + 1 := ⟨m - 1, by omega⟩
    obtain rfl : i = pA X 0 := by omega
    refine Or.inr ⟨fun t h1 h2 => by omega, ?_⟩
    rw [s_X4_truckRanked_L2, pu_rA (by omega), if_pos (Int32.le_refl _)]
  | succ n ih =>
    intro i m hi hm
    obtain ⟨m, rfl⟩ : ∃ q, m = q + 1 := ⟨m - 1, by omega⟩
    rw [s_X4_truckRanked_L2, pu_rA (by omega), if_neg ((nI_geI (by omega) (by omega)).mpr (by omega)), pu_rankOf h he (by omega), nI_1]
    by_cases h1 : nI (rkT X i) = x
    · rw [if_pos h1]
      exact Or.inl ⟨i, Nat.le_refl i, by omega, h1, rfl⟩
    · rw [if_neg h1]
      rcases ih (i + 1) m (by omega) (by omega) with ⟨t, t1, t2, t3, t4⟩ | ⟨t1, t2⟩
      · exact Or.inl ⟨t, by omega, t2, t3, t4⟩
      · refine Or.inr ⟨fun t h3 h4 => ?_, t2⟩
        by_cases e : t = i
        · subst e; exact h1
        · exact t1 t (by omega) h4
theorem w_tbc {X : pu_S} (h : pu_I X) (he : ∀ t, t < 6 → pF X t 0 < 2 ^ 31) (x : Int32) : (∃ t, t < pA X 0 ∧ nI (rkT X t) = x ∧ w_truckByCoins (ft_nr (pu_r X)) x = nI t) ∨ ((∀ t, t < pA X 0 → ¬ nI (rkT X t) = x) ∧ w_truckByCoins (ft_nr (pu_r X)) x = -1000) := by
  have h6 := h.1.1
  have e := pu_ranked_L h he x (pA X 0) 0 (tn (pu_r X 0) + 1) (by omega) (by rw [pu_rA (by omega), ft_tnI (by omega)]; omega)
  rw [nI_0] at e
  have el : l_truckByCoins (ft_nr (pu_r X)) x = ft_xb (s_X7_needFound (s_X4_truckRanked_L2 (pu_r X) x (fun _ => (-1)) (tn (pu_r X 0) + 1) 0)) (fun z => .ok z) := rfl
  rcases e with ⟨t, -, t2, t3, t4⟩ | ⟨t1, t2⟩
  · refine Or.inl ⟨t, t2, t3, ?_⟩
    unfold w_truckByCoins
    rw [el, t4]
    unfold s_X7_needFound
    rw [if_neg (show ¬ nI t = -1 from fun e => nI_pos (n := t) (by omega) (by rw [e]; decide))]
    rfl
  · refine Or.inr ⟨fun t ht => t1 t (Nat.zero_le t) ht, ?_⟩
    unfold w_truckByCoins
    rw [el, t2]
    unfold s_X7_needFound
    rw [if_pos rfl]
    rfl
theorem pu_he {X : pu_S} (h : pu_I X) (hT : pu_T X) {c : Nat} (hb : 60 * pA X 1 + pA X 2 ≤ 900 * c) (hc : c ≤ 1000) : ∀ t, t < 6 → pF X t 0 < 2 ^ 31 := fun t ht => (pu_earn h hT hb hc ht).2.2.2
theorem rkT_lt {X : pu_S} (h : pu_I X) {t : Nat} (ht : t < pA X 0) : rkT X t < pA X 0 := rk_lt (kT_inj h.1.1) ht
theorem w_tbc_i {X : pu_S} (h : pu_I X) (he : ∀ t, t < 6 → pF X t 0 < 2 ^ 31) {i : Nat} (hi : i < pA X 0) : ∃ t, t < pA X 0 ∧ rkT X t = i ∧ w_truckByCoins (ft_nr (pu_r X)) (nI i) = nI t := by
  have h6 := h.1.1
  rcases w_tbc h he (nI i) with ⟨t, t1, t2, t3⟩ | ⟨t1, -⟩
  · have := rkT_lt h t1
    exact ⟨t, t1, (nI_eq (by omega) (by omega)).mp t2, t3⟩
  · obtain ⟨t, ht, hr⟩ := rk_ex (kT_inj (X := X) h6) i hi
    exact absurd (congrArg nI hr) (t1 t ht)
theorem g_c1 {r : Nat → Int32} (h : ft_Gd r) : ∀ (y : Int32) (i : Nat), y = nI i → i + 1 ≤ tn (l_truckCount (ft_nr r)) → ¬ s_X4_isTruck r (w_truckByCoins (ft_nr r) y) = 0 := by
  obtain ⟨X, rfl, hI, hT, hb⟩ := h
  intro y i hy hi
  subst hy
  obtain ⟨t, t1, -, t3⟩ := w_tbc_i hI (pu_he hI hT hb (by omega)) (g_lt hI.1 hi)
  rw [t3]
  exact nT hI.1 t1
theorem g_a1 {r : Nat → Int32} (h : ft_Gd r) : w_truckByCoins (ft_nr r) (l_truckCount (ft_nr r)) = -1000 := by
  obtain ⟨X, rfl, hI, hT, hb⟩ := h
  have h6 := hI.1.1
  rw [v_cnt]
  rcases w_tbc hI (pu_he hI hT hb (by omega)) (nI (pA X 0)) with ⟨t, t1, t2, -⟩ | ⟨-, t2⟩
  · have := rkT_lt hI t1
    have := (nI_eq (by omega) (by omega)).mp t2
    omega
  · exact t2
theorem g_a2 {r : Nat → Int32} (h : ft_Gd r) : w_truckByCoins (ft_nr r) (-1) = -1000 := by
  obtain ⟨X, rfl, hI, hT, hb⟩ := h
  have h6 := hI.1.1
  rcases w_tbc hI (pu_he hI hT hb (by omega)) (-1) with ⟨t, t1, t2, -⟩ | ⟨-, t2⟩
  · have := rkT_lt hI t1
    exact absurd t2 (fun e => nI_pos (n := rkT X t) (by omega) (by rw [e]; decide))
  · exact t2
theorem sub_pos {a b : Nat} (h : b < a) (ha : a < 2 ^ 31) : (0 : Int32) < nI a - nI b := by
  rw [pk_sub (by omega)]
  exact nI_lt (a := 0) (by omega) (by omega)
theorem sub_zero' {a : Nat} : nI a - nI a = 0 := by rw [pk_sub (Nat.le_refl a), Nat.sub_self, nI_0]
theorem g_c2 {r : Nat → Int32} (h : ft_Gd r) : ∀ (y : Int32) (i : Nat), y = nI i → 1 ≤ i → i + 1 ≤ tn (l_truckCount (ft_nr r)) → 0 < (p_coins (ft_nr r) (w_truckByCoins (ft_nr r) (y - 1))) - (p_coins (ft_nr r) (w_truckByCoins (ft_nr r) y)) ∨ ((p_coins (ft_nr r) (w_truckByCoins (ft_nr r) (y - 1))) - (p_coins (ft_nr r) (w_truckByCoins (ft_nr r) y)) = 0 ∧ (0 < (s_L_stocks r (w_truckByCoins (ft_nr r) (y - 1))) - (s_L_stocks r (w_truckByCoins (ft_nr r) y)) ∨ ((s_L_stocks r (w_truckByCoins (ft_nr r) (y - 1))) - (s_L_stocks r (w_truckByCoins (ft_nr r) y)) = 0 ∧ w_truckByCoins (ft_nr r) (y - 1) < w_truckByCoins (ft_nr r) y))) := by
  obtain ⟨X, rfl, hI, hT, hb⟩ := h
  intro y i hy h1 hi
  subst hy
  have h6 := hI.1.1
  have hlt := g_lt hI.1 hi
  have he := pu_he hI hT hb (by omega)
  rw [ft_pred rfl h1]
  obtain ⟨t, t1, t2, t3⟩ := w_tbc_i hI he (i := i - 1) (by omega)
  obtain ⟨u, u1, u2, u3⟩ := w_tbc_i hI he hlt
  have hk : kT X u < kT X t := rk_key (kT_inj h6) t1 u1 (show rkT X t < rkT X u by omega)
  have hst := sP_le hI (show t < 6 by omega)
  have hsu := sP_le hI (show u < 6 by omega)
  have het := he t (by omega)
  have heu := he u (by omega)
  rw [t3, u3, v_coins hI.1 t1, v_coins hI.1 u1, v_stocks hI.1 t1, v_stocks hI.1 u1]
  unfold kT at hk
  by_cases c1 : pF X u 0 < pF X t 0
  · exact Or.inl (sub_pos c1 het)
  · have c2 : pF X t 0 = pF X u 0 := by omega
    refine Or.inr ⟨by rw [c2]; exact sub_zero', ?_⟩
    by_cases c3 : sP X u < sP X t
    · exact Or.inl (sub_pos c3 (by omega))
    · have c4 : sP X t = sP X u := by omega
      exact Or.inr ⟨by rw [c4]; exact sub_zero', nI_lt (by omega) (by omega)⟩
