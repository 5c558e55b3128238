/-! facts of a good row: counts of trucks and queues, the rota -/
theorem g_lt {X : pu_S} {i : Nat} (h : pIa X) (hi : i + 1 ≤ tn (l_truckCount (ft_nr (pu_r X)))) : i < pA X 0 := by rw [v_tcnt h] at hi; exact hi
theorem g_dN {r : Nat → Int32} (h : ft_Gd r) : tn (l_truckCount (ft_nr r)) ≤ 6 := by
  obtain ⟨X, rfl, hI, -⟩ := h
  rw [v_tcnt hI.1]
  exact hI.1.1
theorem g_dT {r : Nat → Int32} (h : ft_Gd r) : ∀ (y : Int32) (i : Nat), y = nI i → i + 1 ≤ tn (l_truckCount (ft_nr r)) → ¬ s_X4_isTruck r y = 0 := by
  obtain ⟨X, rfl, hI, -⟩ := h
  intro y i hy hi
  subst hy
  exact nT hI.1 (g_lt hI.1 hi)
theorem g_dQ {r : Nat → Int32} (h : ft_Gd r) : ∀ (y : Int32) (i : Nat), y = nI i → i + 1 ≤ tn (l_truckCount (ft_nr r)) → tn (p_queueLength (ft_nr r) y) ≤ 9 := by
  obtain ⟨X, rfl, hI, -⟩ := h
  intro y i hy hi
  subst hy
  have hlt := g_lt hI.1 hi
  have h6 := hI.1.1
  have h9 := (hI.2.2.2.1 i (by omega)).1
  rw [v_queue hI.1 hlt, ft_tnI (by omega)]
  exact h9
theorem g_qlt {X : pu_S} {i j : Nat} (hI : pu_I X) (hlt : i < pA X 0) (hj : j + 1 ≤ tn (p_queueLength (ft_nr (pu_r X)) (nI i))) : j < pF X i 2 := by
  have h6 := hI.1.1
  have h9 := (hI.2.2.2.1 i (by omega)).1
  rw [v_queue hI.1 hlt, ft_tnI (by omega)] at hj
  exact hj
theorem g_dW {r : Nat → Int32} (h : ft_Gd r) : ∀ (y z : Int32) (i j : Nat), y = nI i → i + 1 ≤ tn (l_truckCount (ft_nr r)) → z = nI j → j + 1 ≤ tn (p_queueLength (ft_nr r) y) → ¬ s_X6_wishAt r (51 + 17 * tn y) z = -1 := by
  obtain ⟨X, rfl, hI, -⟩ := h
  intro y z i j hy hi hz hj
  subst hy; subst hz
  have hlt := g_lt hI.1 hi
  have hjq := g_qlt hI hlt hj
  have h6 := hI.1.1
  have h4 := hI.2.2.2.1 i (by omega)
  have hw := h4.2.2.2.1 j hjq
  rw [ft_tnI (by omega), pu_wishAt h4.1 (by omega), if_pos hjq]
  exact fun e => nI_pos (n := pF X i (8 + j)) (by omega) (by rw [e]; decide)
theorem ft_h1_n {t : Nat} (h : t < 2 ^ 31) : ¬ ft_h1 (some t) = -1000 := fun e => nI_pos h (by rw [show nI t = -1000 from e]; decide)
theorem ft_h1_some {o : Option Nat} (h : ¬ ft_h1 o = -1000) : ∃ t, o = some t := by
  cases o with
  | none => exact absurd rfl h
  | some t => exact ⟨t, rfl⟩
theorem g_wd {x : Int32} (h : ¬ s_X7_isWeekday x = 0) : ∃ d, d < 7 ∧ x = nI d := (pu_isWeekday x).resolve_left h
theorem pu_freeOn_L {X : pu_S} {d : Nat} (h : pu_I X) (hd : d < 7) : ∀ (n i m : Nat), i + n = 5 → n < m → s_L_freeOn_L2 (pu_r X) (nI d) (fun _ => (-1000)) m (nI i) = ft_h1 (ft_pd (pH X) none d n i) := by
  intro n
  induction n with
  | zero =>
    intro i m hi hm
    obtain ⟨m, rfl⟩ : ∃ q, m = q + 1 := ⟨m - 1, by omega⟩
    obtain rfl : i = 5 := by omega
    rw [s_L_freeOn_L2, if_pos (by decide)]
    rfl
  | succ n ih =>
    intro i m hi hm
    obtain ⟨m, rfl⟩ : ∃ q, m = q + 1 := ⟨m - 1, by omega⟩
    rw [s_L_freeOn_L2, if_neg (show ¬ (5 : Int32) ≤ nI i from (nI_geI (a := 5) (by decide) (by omega)).mpr (by omega)), v_truckAt h (by omega) hd, ft_pd]
    cases hh : pH X (7 * i + d) with
    | none => rw [if_pos (show ft_h1 none = -1000 from rfl), if_pos rfl]; rfl
    | some t =>
      rw [if_neg (ft_h1_n (h.h31 _ (by omega) t hh)), if_neg (fun e => by cases e), nI_1]
      exact ih (i + 1) m (by omega) (by omega)
theorem pu_freeOn {X : pu_S} {d : Nat} (h : pu_I X) (hd : d < 7) : s_L_freeOn (pu_r X) (nI d) = ft_h1 (ft_ph (pH X) none d) := by
  have e := pu_freeOn_L h hd 5 0 (tn 5 + 1) rfl (by decide)
  rw [nI_0] at e
  exact e
theorem g_b1 {r : Nat → Int32} (h : ft_Gd r) : ∀ x : Int32, ¬ s_X7_isWeekday x = 0 → w_firstFreePitch (ft_nr r) x = s_L_freeOn r x := by
  obtain ⟨X, rfl, hI, -⟩ := h
  intro x hx
  obtain ⟨d, hd, rfl⟩ := g_wd hx
  rw [pu_freeOn hI hd]
  have e : l_firstFreePitch (ft_nr (pu_r X)) (nI d) = ft_xb (s_X7_needFound (ft_he (ft_ph (pH X) none d))) (fun z => .ok z) := by
    unfold l_firstFreePitch s_X7_firstFreePitch s_X7_needWeekday
    rw [pu_isWeekday1 hd, if_neg (by decide), show s_X4_pitchHeldBy ((ft_nr (pu_r X)).1 0) (-1) (nI d) = ft_he (ft_ph (pH X) none d) from pu_pitchHeldBy (x := none) hd hI.h31 (fun y e => by cases e)]
    rfl
  unfold w_firstFreePitch
  rw [e]
  unfold s_X7_needFound
  cases hh : ft_ph (pH X) none d with
  | none => rw [if_pos (show ft_he none = -1 from rfl)]; rfl
  | some p =>
    have := (ft_ph_some hh).1
    rw [if_neg (ft_he_n (by omega))]; rfl
theorem g_at {X : pu_S} {i d : Nat} (hI : pu_I X) (hp : i < 5) (hd : d < 7) (hn : ¬ w_truckAt (ft_nr (pu_r X)) (nI i) (nI d) = -1000) : ∃ t, pH X (7 * i + d) = some t ∧ t < pA X 0 ∧ w_truckAt (ft_nr (pu_r X)) (nI i) (nI d) = nI t ∧ pF X t 3 / 2 ^ d % 2 = 1 := by
  rw [v_truckAt hI hp hd] at hn ⊢
  obtain ⟨t, ht⟩ := ft_h1_some hn
  have hf := hI.2.2.2.2.2.1 _ (by omega) t ht
  have e7 : (7 * i + d) % 7 = d := by omega
  rw [e7] at hf
  rw [ht]
  exact ⟨t, rfl, hf.1, rfl, hf.2⟩
theorem g_b2 {r : Nat → Int32} (h : ft_Gd r) : ∀ (x p : Int32) (i : Nat), ¬ s_X7_isWeekday x = 0 → p = nI i → i + 1 ≤ 5 → ¬ w_truckAt (ft_nr r) p x = -1000 → l_pitchOf (ft_nr r) (w_truckAt (ft_nr r) p x) x = .ok p := by
  obtain ⟨X, rfl, hI, -⟩ := h
  intro x p i hx hp hi hn
  obtain ⟨d, hd, rfl⟩ := g_wd hx
  subst hp
  obtain ⟨t, ht, hlt, e, -⟩ := g_at hI (by omega) hd hn
  rw [e, v_pitchOf hI hlt hd]
  cases hh : ft_ph (pH X) (some t) d with
  | none => exact absurd ht (ft_ph_none hh i (by omega))
  | some p =>
    obtain ⟨hp5, hpt, -⟩ := ft_ph_some hh
    obtain rfl : p = i := hI.2.2.2.2.2.2.1 p i d t hp5 (by omega) hd hpt ht
    unfold s_X7_needFound
    rw [if_neg (ft_he_n (by omega))]
    rfl
theorem g_b3 {r : Nat → Int32} (h : ft_Gd r) : ∀ (x p : Int32) (i : Nat), ¬ s_X7_isWeekday x = 0 → p = nI i → i + 1 ≤ 5 → ¬ w_truckAt (ft_nr r) p x = -1000 → l_hasPermit (ft_nr r) (w_truckAt (ft_nr r) p x) x = .ok 1 := by
  obtain ⟨X, rfl, hI, -⟩ := h
  intro x p i hx hp hi hn
  obtain ⟨d, hd, rfl⟩ := g_wd hx
  subst hp
  obtain ⟨t, ht, hlt, e, hbit⟩ := g_at hI (by omega) hd hn
  have h6 := hI.1.1
  rw [e]
  unfold l_hasPermit s_X7_hasPermit s_X7_needTruck s_X7_needWeekday
  rw [if_neg (nT hI.1 hlt), pu_isWeekday1 hd, if_neg (by decide)]
  show Except.ok (s_X6_isPermitted (pu_r X) (51 + 17 * tn (nI t)) (nI d)) = _
  rw [ft_tnI (by omega), pu_isPermitted (hI.2.2.2.1 t (by omega)).2.1 hd, if_pos hbit]
/-! sums by loops -/
theorem pu_sumQ_L {X : pu_S} {r : Nat → Int32} (hr : r = pu_r X) : ∀ (n i m a : Nat), i + n = 6 → n < m → s_X4_sumOfQueues_L4 r (fun y1_4 y2_4 => y1_4) m (nI (sN (fun t => pF X t 2) i)) (nI i) = nI (sN (fun t => pF X t 2) 6) := by
  intro n
  induction n with
  | zero =>
    intro i m a hi hm
    obtain ⟨m, rfl⟩ : ∃ q, m = q + 1 := ⟨m - 1, by omega⟩
    obtain rfl : i = 6 := by omega
    rw [s_X4_sumOfQueues_L4, if_pos (by decide)]
  | succ n ih =>
    intro i m a hi hm
    obtain ⟨m, rfl⟩ : ∃ q, m = q + 1 := ⟨m - 1, by omega⟩
    rw [s_X4_sumOfQueues_L4, if_neg (show ¬ (6 : Int32) ≤ nI i from (nI_geI (a := 6) (by decide) (by omega)).mpr (by omega)), ft_tnI (show i < 2 ^ 31 by omega), hr, pu_rF (by omega), nI_add, nI_1, ← hr]
    exact ih (i + 1) m a (by omega) (by omega)
theorem pu_sumQ {X : pu_S} : s_X4_sumOfQueues (pu_r X) = nI (s6 (fun t => pF X t 2)) := by
  have e := pu_sumQ_L (X := X) rfl 6 0 (tn 6 + 1) 0 rfl (by decide)
  rw [show sN (fun t => pF X t 2) 0 = 0 from rfl, nI_0] at e
  rw [← sN_6 (n := 6) (Nat.le_refl 6) (fun t h1 h2 => by omega)]
  exact e
theorem pu_sumC_L {X : pu_S} {r : Nat → Int32} (hr : r = pu_r X) : ∀ (n i m a : Nat), i + n = 6 → n < m → s_X4_sumOfCoins_L4 r (fun y1_4 y2_4 => y1_4) m (nI (sN (fun t => pF X t 0) i)) (nI i) = nI (sN (fun t => pF X t 0) 6) := by
  intro n
  induction n with
  | zero =>
    intro i m a hi hm
    obtain ⟨m, rfl⟩ : ∃ q, m = q + 1 := ⟨m - 1, by omega⟩
    obtain rfl : i = 6 := by omega
    rw [s_X4_sumOfCoins_L4, if_pos (by decide)]
  | succ n ih =>
    intro i m a hi hm
    obtain ⟨m, rfl⟩ : ∃ q, m = q + 1 := ⟨m - 1, by omega⟩
    rw [s_X4_sumOfCoins_L4, if_neg (show ¬ (6 : Int32) ≤ nI i from (nI_geI (a := 6) (by decide) (by omega)).mpr (by omega)), ft_tnI (show i < 2 ^ 31 by omega), hr, pu_rF (by omega), nI_add, nI_1, ← hr]
    exact ih (i + 1) m a (by omega) (by omega)
theorem pu_sumC {X : pu_S} : s_X4_sumOfCoins (pu_r X) = nI (s6 (fun t => pF X t 0)) := by
  have e := pu_sumC_L (X := X) rfl 6 0 (tn 6 + 1) 0 rfl (by decide)
  rw [show sN (fun t => pF X t 0) 0 = 0 from rfl, nI_0] at e
  rw [← sN_6 (n := 6) (Nat.le_refl 6) (fun t h1 h2 => by omega)]
  exact e
theorem pu_sumO_L {X : pu_S} {r : Nat → Int32} (hr : r = pu_r X) : ∀ (n i m a : Nat), i + n = 4 → n < m → s_X4_sumOfSold_L4 r (fun y1_4 y2_4 => y1_4) m (nI (sN (pO X) i)) (nI i) = nI (sN (pO X) 4) := by
  intro n
  induction n with
  | zero =>
    intro i m a hi hm
    obtain ⟨m, rfl⟩ : ∃ q, m = q + 1 := ⟨m - 1, by omega⟩
    obtain rfl : i = 4 := by omega
    rw [s_X4_sumOfSold_L4, if_pos (by decide)]
  | succ n ih =>
    intro i m a hi hm
    obtain ⟨m, rfl⟩ : ∃ q, m = q + 1 := ⟨m - 1, by omega⟩
    rw [s_X4_sumOfSold_L4, if_neg (show ¬ (4 : Int32) ≤ nI i from (nI_geI (a := 4) (by decide) (by omega)).mpr (by omega)), ft_tnI (show i < 2 ^ 31 by omega), ft_ar_get (by omega), hr, pu_rO (by omega), nI_add, nI_1, ← hr]
    exact ih (i + 1) m a (by omega) (by omega)
theorem pu_sumO {X : pu_S} : s_X4_sumOfSold (pu_r X) = nI (s4 (pO X)) := by
  have e := pu_sumO_L (X := X) rfl 4 0 (tn 4 + 1) 0 rfl (by decide)
  rw [show sN (pO X) 0 = 0 from rfl, nI_0, sN_4] at e
  exact e
/-! how many assignments there are, counted in three ways -/
def aP (X : pu_S) (p d : Nat) : Nat := if pH X (7 * p + d) = none then 0 else 1
theorem pu_cntP_L11 {X : pu_S} {r : Nat → Int32} (hr : r = pu_r X) (h : pu_I X) {p : Nat} (hp : p < 5) (u : Int32) (K : Int32 → Int32 → Int32) : ∀ (n i m a : Nat), i + n = 7 → n < m → s_X4_countByPitches_L11 r u (nI p) K m (nI (a + sN (aP X p) i)) (nI i) = K (nI (a + sN (aP X p) 7)) (nI 7) := by
  intro n
  induction n with
  | zero =>
    intro i m a hi hm
    obtain ⟨m, rfl⟩ : ∃ q, m = q + 1 := ⟨m - 1, by omega⟩
    obtain rfl : i = 7 := by omega
    rw [s_X4_countByPitches_L11, if_pos (by decide)]
  | succ n ih =>
    intro i m a hi hm
    obtain ⟨m, rfl⟩ : ∃ q, m = q + 1 := ⟨m - 1, by omega⟩
    have e : sN (aP X p) (i + 1) = sN (aP X p) i + aP X p i := rfl
    rw [s_X4_countByPitches_L11, if_neg (show ¬ (7 : Int32) ≤ nI i from (nI_geI (a := 7) (by decide) (by omega)).mpr (by omega)), hr, pu_holderOf hp (by omega), ← hr]
    cases hh : pH X (7 * p + i) with
    | none =>
      have e2 : aP X p i = 0 := if_pos hh
      rw [if_pos (show ft_he none = -1 from rfl), nI_1]
      have := ih (i + 1) m a (by omega) (by omega)
      rw [e, e2, Nat.add_zero] at this
      exact this
    | some t =>
      have e2 : aP X p i = 1 := if_neg (by rw [hh]; intro e; cases e)
      rw [if_neg (ft_he_n (h.h31 _ (by omega) t hh)), nI_1, nI_1]
      have := ih (i + 1) m a (by omega) (by omega)
      rw [e, e2] at this
      exact this
