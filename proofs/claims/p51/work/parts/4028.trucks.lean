/-! facts of the trucks: queues, times, days -/
theorem v_hasPermit {X : pu_S} {t d : Nat} (h : pIa X) (ht : t < pA X 0) (hd : d < 7) : p_hasPermit (ft_nr (pu_r X)) (nI t) (nI d) = s_X6_isPermitted (pu_r X) (51 + 17 * t) (nI d) := by
  have e : l_hasPermit (ft_nr (pu_r X)) (nI t) (nI d) = .ok (s_X6_isPermitted (pu_r X) (51 + 17 * t) (nI d)) := by
    unfold l_hasPermit s_X7_hasPermit s_X7_needTruck s_X7_needWeekday
    rw [if_neg (nT h ht), pu_isWeekday1 hd, if_neg (by decide)]
    show Except.ok (s_X6_isPermitted (pu_r X) (51 + 17 * tn (nI t)) (nI d)) = _
    rw [ft_tnI (nT31 h ht)]
  unfold p_hasPermit
  rw [e]
theorem pu_firstOf_L {X : pu_S} {t : Nat} (h : pu_I X) (ht : t < pA X 0) : ∀ (n i m m' : Nat), i + n = 7 → n < m → n < m' → ∃ o : Option Nat, (∀ d, o = some d → d < 7) ∧ s_X4_freeDayFor_L12 (pu_r X) (nI t) (fun _ => (-1)) m (nI i) = ft_he o ∧ s_L_firstOf_L2 (pu_r X) (nI t) (fun _ => (-1000)) m' (nI i) = ft_h1 o := by
  have h6 := h.1.1
  intro n
  induction n with
  | zero =>
    intro i m m' hi hm hm'
    obtain ⟨m, rfl⟩ : ∃ q, m = q + 1 := ⟨m - 1, by omega⟩
    obtain ⟨m', rfl⟩ : ∃ q, m' = q + 1 := ⟨m' - 1, by omega⟩
    obtain rfl : i = 7 := by omega
    rw [s_X4_freeDayFor_L12, if_pos (by decide), s_L_firstOf_L2, if_pos (by decide)]
    exact ⟨none, (fun d e => by cases e), rfl, rfl⟩
  | succ n ih =>
    intro i m m' hi hm hm'
    obtain ⟨m, rfl⟩ : ∃ q, m = q + 1 := ⟨m - 1, by omega⟩
    obtain ⟨m', rfl⟩ : ∃ q, m' = q + 1 := ⟨m' - 1, by omega⟩
    have h7 : ¬ (7 : Int32) ≤ nI i := (nI_geI (a := 7) (by decide) (by omega)).mpr (by omega)
    obtain ⟨o, ho1, ho2, ho3⟩ := ih (i + 1) m m' (by omega) (by omega) (by omega)
    rw [s_X4_freeDayFor_L12, if_neg h7, s_L_firstOf_L2, if_neg h7, v_hasPermit h.1 ht (by omega), ft_tnI (show t < 2 ^ 31 by omega), nI_1]
    by_cases c1 : s_X6_isPermitted (pu_r X) (51 + 17 * t) (nI i) = 0
    · rw [if_pos c1, if_pos c1]; exact ⟨o, ho1, ho2, ho3⟩
    · rw [if_neg c1, if_neg c1, v_wpitchOf h ht (by omega), show s_X4_pitchHeldBy (pu_r X) (nI t) (nI i) = ft_he (ft_ph (pH X) (some t) i) from pu_pitchHeldBy (x := some t) (by omega) h.h31 (fun y e => by cases e; omega)]
      cases c2 : ft_ph (pH X) (some t) i with
      | some p =>
        have := (ft_ph_some c2).1
        rw [if_neg (ft_he_n (by omega)), if_neg (ft_h1_n (by omega))]
        exact ⟨o, ho1, ho2, ho3⟩
      | none =>
        rw [if_pos (show ft_he none = -1 from rfl), if_pos (show ft_h1 none = -1000 from rfl), pu_freeOn h (by omega), show s_X4_pitchHeldBy (pu_r X) (-1) (nI i) = ft_he (ft_ph (pH X) none i) from pu_pitchHeldBy (x := none) (by omega) h.h31 (fun y e => by cases e)]
        cases c3 : ft_ph (pH X) none i with
        | none => rw [if_pos (show ft_he none = -1 from rfl), if_pos (show ft_h1 none = -1000 from rfl)]; exact ⟨o, ho1, ho2, ho3⟩
        | some p =>
          have := (ft_ph_some c3).1
          rw [if_neg (ft_he_n (by omega)), if_neg (ft_h1_n (by omega))]
          exact ⟨some i, (fun d e => by cases e; omega), rfl, rfl⟩
theorem g_a11 {r : Nat → Int32} (h : ft_Gd r) : ∀ (y : Int32) (i : Nat), y = nI i → i + 1 ≤ tn (l_truckCount (ft_nr r)) → w_firstFreeDay (ft_nr r) y = s_L_firstOf r y := by
  obtain ⟨X, rfl, hI, -⟩ := h
  intro y i hy hi
  subst hy
  have hlt := g_lt hI.1 hi
  obtain ⟨o, ho1, ho2, ho3⟩ := pu_firstOf_L hI hlt 7 0 (tn 7 + 1) (tn 7 + 1) rfl (by decide) (by decide)
  rw [nI_0] at ho2 ho3
  have e : l_firstFreeDay (ft_nr (pu_r X)) (nI i) = ft_xb (s_X7_needFound (ft_he o)) (fun z => .ok z) := by
    unfold l_firstFreeDay s_X7_firstFreeDay s_X7_needTruck
    rw [if_neg (nT hI.1 hlt), show s_X4_freeDayFor ((ft_nr (pu_r X)).1 0) (nI i) = ft_he o from by
      unfold s_X4_freeDayFor
      rw [if_neg (nT hI.1 hlt)]
      exact ho2]
    rfl
  rw [show s_L_firstOf (pu_r X) (nI i) = ft_h1 o from ho3]
  unfold w_firstFreeDay
  rw [e]
  unfold s_X7_needFound
  cases o with
  | none => rw [if_pos (show ft_he none = -1 from rfl)]; rfl
  | some d =>
    have := ho1 d rfl
    rw [if_neg (ft_he_n (by omega))]; rfl
theorem pu_wish0 {X : pu_S} {t : Nat} (hI : pu_I X) (ht : t < pA X 0) (hm : pF X t 1 ≠ 0) : 0 < pF X t 2 ∧ pF X t 1 ≤ pF X t 8 ∧ pF X t 8 < 4 := by
  have h6 := hI.1.1
  have h4 := hI.2.2.2.1 t (by omega)
  obtain ⟨m1, m2, -⟩ := h4.2.2.2.2 (by omega)
  have m3 := h4.2.2.2.1 0 m1
  exact ⟨m1, m2, m3⟩
theorem pu_left0 {X : pu_S} {t : Nat} (hI : pu_I X) (ht : t < pA X 0) : p_minutesLeft (ft_nr (pu_r X)) (nI t) = 0 ↔ pF X t 1 = 0 := by
  have h6 := hI.1.1
  have h4 := hI.2.2.2.1 t (by omega)
  rw [v_left hI.1 ht]
  constructor
  · intro e
    by_cases h0 : pF X t 1 = 0
    · exact h0
    · have := pu_wish0 hI ht h0
      exact (nI_eq (b := 0) (by omega) (by decide)).mp e
  · intro e
    rw [e, nI_0]
theorem g_a3 {r : Nat → Int32} (h : ft_Gd r) : ∀ (y : Int32) (i : Nat), y = nI i → i + 1 ≤ tn (l_truckCount (ft_nr r)) → ¬ p_minutesLeft (ft_nr r) y = 0 → ¬ s_X6_wishAt r (51 + 17 * tn y) 0 = -1 := by
  obtain ⟨X, rfl, hI, -⟩ := h
  intro y i hy hi hm
  subst hy
  have hlt := g_lt hI.1 hi
  have h6 := hI.1.1
  have h4 := hI.2.2.2.1 i (by omega)
  obtain ⟨m1, m2, m3⟩ := pu_wish0 hI hlt (fun e => hm ((pu_left0 hI hlt).mpr e))
  have e := pu_wishAt (X := X) (t := i) (j := 0) h4.1 (by omega)
  rw [if_pos m1, nI_0] at e
  rw [ft_tnI (by omega), e]
  exact fun e => nI_pos (n := pF X i (8 + 0)) (by have : pF X i (8 + 0) = pF X i 8 := rfl; omega) (by rw [e]; decide)
/-- what the queue asks for, in minutes -/
def qW (X : pu_S) (t : Nat) : Nat := sN (fun j => pF X t (8 + j) + 1) (pF X t 2)
theorem pu_mfq_L {X : pu_S} {t : Nat} (h9 : pF X t 2 ≤ 9) (K : Int32 → Int32 → Int32) : ∀ (n i m : Nat), i + n = pF X t 2 → n < m → s_X6_minutesForQueue_L4 (pu_r X) (51 + 17 * t) K m (nI (sN (fun j => pF X t (8 + j) + 1) i)) (nI i) = K (nI (qW X t)) (nI (pF X t 2)) := by
  intro n
  induction n with
  | zero =>
    intro i m hi hm
    obtain ⟨m, rfl⟩ : ∃ q, m = q + 1 := ⟨m - 1, by omega⟩
    obtain rfl : i = pF X t 2 := by omega
    rw [s_X6_minutesForQueue_L4, pu_rF (by omega), if_pos (Int32.le_refl _)]
    rfl
  | succ n ih =>
    intro i m hi hm
    obtain ⟨m, rfl⟩ : ∃ q, m = q + 1 := ⟨m - 1, by omega⟩
    rw [s_X6_minutesForQueue_L4, pu_rF (by omega), if_neg ((nI_geI (by omega) (by omega)).mpr (by omega)), pu_wishAt h9 (by omega), if_pos (by omega), show s_X7_minutesFor (nI (pF X t (8 + i))) = nI (pF X t (8 + i) + 1) from nI_1 _, nI_add, nI_1]
    exact ih (i + 1) m (by omega) (by omega)
theorem v_qtime {X : pu_S} {t : Nat} (hI : pu_I X) (ht : t < pA X 0) : p_queueTime (ft_nr (pu_r X)) (nI t) = if pF X t 1 = 0 then nI (qW X t) else nI (qW X t) - (nI (pF X t 8 + 1) - nI (pF X t 1)) := by
  have h6 := hI.1.1
  have h4 := hI.2.2.2.1 t (by omega)
  have e : l_queueTime (ft_nr (pu_r X)) (nI t) = .ok (s_X6_minutesForQueue (pu_r X) (51 + 17 * t)) := by
    unfold l_queueTime s_X7_queueTime s_X7_needTruck
    rw [if_neg (nT hI.1 ht)]
    show Except.ok (s_X6_minutesForQueue (pu_r X) (51 + 17 * tn (nI t))) = _
    rw [ft_tnI (nT31 hI.1 ht)]
  unfold p_queueTime
  rw [e]
  show s_X6_minutesForQueue (pu_r X) (51 + 17 * t) = _
  unfold s_X6_minutesForQueue
  have e2 := pu_mfq_L h4.1 (fun y1_4 y2_4 => if ((pu_r X) (51 + 17 * t + 1)) ≤ 0 then (y1_4) else (y1_4 - ((s_X7_minutesFor (s_X6_wishAt (pu_r X) (51 + 17 * t) 0)) - ((pu_r X) (51 + 17 * t + 1))))) (pF X t 2) 0 (tn ((pu_r X) (51 + 17 * t + 2)) + 1) (by omega) (by rw [pu_rF (by omega), ft_tnI (by omega)]; omega)
  rw [show sN (fun j => pF X t (8 + j) + 1) 0 = 0 from rfl, nI_0] at e2
  rw [e2, pu_rF (by omega)]
  by_cases h0 : pF X t 1 = 0
  · rw [if_pos h0, h0, nI_0, if_pos (by decide)]
  · obtain ⟨m1, m2, m3⟩ := pu_wish0 hI ht h0
    have e3 := pu_wishAt (X := X) (t := t) (j := 0) h4.1 (by omega)
    rw [if_pos m1, nI_0] at e3
    rw [if_neg h0, if_neg (show ¬ nI (pF X t 1) ≤ (0 : Int32) from (nI_geI (b := 0) (by omega) (by decide)).mpr (by omega)), e3, show s_X7_minutesFor (nI (pF X t (8 + 0))) = nI (pF X t 8 + 1) from nI_1 _]
theorem v_wdsum {X : pu_S} {t : Nat} (hI : pu_I X) (ht : t < pA X 0) : ft_up (ft_wd (pu_r X) (nI t)) 0 (tn (p_queueLength (ft_nr (pu_r X)) (nI t))) = nI (qW X t) := by
  have h6 := hI.1.1
  have h4 := hI.2.2.2.1 t (by omega)
  rw [v_queue hI.1 ht, ft_tnI (by omega)]
  refine ft_up_0 (fun j hj => ?_)
  show (p_wantedDish (ft_nr (pu_r X)) (nI t) (nI j)) + 1 = _
  rw [v_wanted hI ht hj, nI_1]
theorem g_a4 {r : Nat → Int32} (h : ft_Gd r) : ∀ (y : Int32) (i : Nat), y = nI i → i + 1 ≤ tn (l_truckCount (ft_nr r)) → p_minutesLeft (ft_nr r) y = 0 → p_queueTime (ft_nr r) y = ft_up (ft_wd r y) 0 (tn (p_queueLength (ft_nr r) y)) - 0 := by
  obtain ⟨X, rfl, hI, -⟩ := h
  intro y i hy hi hm
  subst hy
  have hlt := g_lt hI.1 hi
  rw [v_qtime hI hlt, if_pos ((pu_left0 hI hlt).mp hm), v_wdsum hI hlt]
  exact (Int32.sub_zero _).symm
theorem g_w0 {X : pu_S} {i : Nat} (hI : pu_I X) (hlt : i < pA X 0) (hm : ¬ p_minutesLeft (ft_nr (pu_r X)) (nI i) = 0) : (p_wantedDish (ft_nr (pu_r X)) (nI i) 0) + 1 = nI (pF X i 8 + 1) := by
  obtain ⟨m1, m2, m3⟩ := pu_wish0 hI hlt (fun e => hm ((pu_left0 hI hlt).mpr e))
  have e := v_wanted hI hlt m1
  rw [nI_0] at e
  rw [e]
  exact nI_1 _
theorem g_a5 {r : Nat → Int32} (h : ft_Gd r) : ∀ (y : Int32) (i : Nat), y = nI i → i + 1 ≤ tn (l_truckCount (ft_nr r)) → ¬ p_minutesLeft (ft_nr r) y = 0 → p_queueTime (ft_nr r) y = ft_up (ft_wd r y) 0 (tn (p_queueLength (ft_nr r) y)) - (((p_wantedDish (ft_nr r) y 0) + 1) - (p_minutesLeft (ft_nr r) y)) := by
  obtain ⟨X, rfl, hI, -⟩ := h
  intro y i hy hi hm
  subst hy
  have hlt := g_lt hI.1 hi
  rw [v_qtime hI hlt, if_neg (fun e => hm ((pu_left0 hI hlt).mpr e)), v_wdsum hI hlt, g_w0 hI hlt hm, v_left hI.1 hlt]
theorem g_a6 {r : Nat → Int32} (h : ft_Gd r) : ∀ (y : Int32) (i : Nat), y = nI i → i + 1 ≤ tn (l_truckCount (ft_nr r)) → ¬ p_minutesLeft (ft_nr r) y = 0 → ¬ ((p_wantedDish (ft_nr r) y 0) + 1) - (p_minutesLeft (ft_nr r) y) < 0 := by
  obtain ⟨X, rfl, hI, -⟩ := h
  intro y i hy hi hm
  subst hy
  have hlt := g_lt hI.1 hi
  obtain ⟨m1, m2, m3⟩ := pu_wish0 hI hlt (fun e => hm ((pu_left0 hI hlt).mpr e))
  rw [g_w0 hI hlt hm, v_left hI.1 hlt, pk_sub (by omega)]
  exact nI_pos (by omega)
theorem g_a7 {r : Nat → Int32} (h : ft_Gd r) : ∀ (y : Int32) (i : Nat), y = nI i → i + 1 ≤ tn (l_truckCount (ft_nr r)) → ¬ 9 < p_queueLength (ft_nr r) y := by
  obtain ⟨X, rfl, hI, -⟩ := h
  intro y i hy hi
  subst hy
  have hlt := g_lt hI.1 hi
  have h6 := hI.1.1
  have h4 := hI.2.2.2.1 i (by omega)
  rw [v_queue hI.1 hlt]
  exact nI_nlt (a := 9) h4.1 (by decide)
theorem g_31 {c : Nat} {X : pu_S} (h : 60 * pA X 1 + pA X 2 ≤ 900 * c) (hc : c ≤ 1000) : pA X 1 < 2 ^ 31 := by omega
theorem g_a8 {r : Nat → Int32} (h : ft_Gd r) : ∀ (y : Int32) (i : Nat), y = nI i → i + 1 ≤ tn (l_truckCount (ft_nr r)) → w_pitchOf (ft_nr r) y (ft_td r) = -1000 → p_isOpen (ft_nr r) y = 0 ∧ p_queueLength (ft_nr r) y = 0 ∧ p_minutesLeft (ft_nr r) y = 0 := by
  obtain ⟨X, rfl, hI, hT, hb⟩ := h
  intro y i hy hi hw
  subst hy
  have hlt := g_lt hI.1 hi
  have h6 := hI.1.1
  have h31 : pA X 1 < 2 ^ 31 := by omega
  rw [v_td h31, v_wpitchOf hI hlt (Nat.mod_lt _ (by decide))] at hw
  have hn : ft_ph (pH X) (some i) (pA X 1 % 7) = none := by
    cases hh : ft_ph (pH X) (some i) (pA X 1 % 7) with
    | none => rfl
    | some p =>
      rw [hh] at hw
      have := (ft_ph_some hh).1
      exact absurd hw (ft_h1_n (by omega))
  have hq : pF X i 2 = 0 := hI.2.2.2.2.2.2.2 i (by omega) (ft_ph_none hn)
  have hl : pF X i 1 = 0 := by
    by_cases h0 : pF X i 1 = 0
    · exact h0
    · have := (pu_wish0 hI hlt h0).1
      omega
  refine ⟨?_, ?_, (pu_left0 hI hlt).mpr hl⟩
  · rw [v_pisOpen hI hlt h31, hn]
  · rw [v_queue hI.1 hlt, hq, nI_0]
theorem g_a9 {r : Nat → Int32} (h : ft_Gd r) : ∀ (y : Int32) (i : Nat), y = nI i → i + 1 ≤ tn (l_truckCount (ft_nr r)) → ¬ w_pitchOf (ft_nr r) y (ft_td r) = -1000 → p_isOpen (ft_nr r) y = 1 := by
  obtain ⟨X, rfl, hI, hT, hb⟩ := h
  intro y i hy hi hw
  subst hy
  have hlt := g_lt hI.1 hi
  have h31 : pA X 1 < 2 ^ 31 := by omega
  rw [v_td h31, v_wpitchOf hI hlt (Nat.mod_lt _ (by decide))] at hw
  obtain ⟨p, hp⟩ := ft_h1_some hw
  rw [v_pisOpen hI hlt h31, hp]
theorem g_a10 {r : Nat → Int32} (h : ft_Gd r) : ∀ (y : Int32) (i : Nat), y = nI i → i + 1 ≤ tn (l_truckCount (ft_nr r)) → w_wantedDish (ft_nr r) y (p_queueLength (ft_nr r) y) = -1000 := by
  obtain ⟨X, rfl, hI, -⟩ := h
  intro y i hy hi
  subst hy
  exact v_wantedN hI (g_lt hI.1 hi)
theorem g_a12 {r : Nat → Int32} (h : ft_Gd r) : ft_up (fun y => p_soldPortions (ft_nr r) y) 0 4 = l_servedTotal (ft_nr r) := by
  obtain ⟨X, rfl, hI, -⟩ := h
  rw [ft_up_0 (g := pO X) (n := 4) (fun d hd => v_sold hd), v_served, sN_4, hI.2.1.2.1]
theorem v_sumq {X : pu_S} (hI : pu_I X) : ft_up (fun y => p_queueLength (ft_nr (pu_r X)) y) 0 (tn (l_truckCount (ft_nr (pu_r X)))) = nI (s6 (fun t => pF X t 2)) := by
  rw [v_tcnt hI.1, ft_up_0 (g := fun t => pF X t 2) (fun t ht => v_queue hI.1 ht), sN_6 hI.1.1 (fun t h1 h2 => (hI.2.2.2.2.1 t h2 h1).2.1)]
theorem v_sumc {X : pu_S} (hI : pu_I X) : ft_up (fun y => p_coins (ft_nr (pu_r X)) y) 0 (tn (l_truckCount (ft_nr (pu_r X)))) = nI (s6 (fun t => pF X t 0)) := by
  rw [v_tcnt hI.1, ft_up_0 (g := fun t => pF X t 0) (fun t ht => v_coins hI.1 ht), sN_6 hI.1.1 (fun t h1 h2 => (hI.2.2.2.2.1 t h2 h1).1)]
theorem g_a13 {r : Nat → Int32} (h : ft_Gd r) : l_arrivedTotal (ft_nr r) = (((l_servedTotal (ft_nr r)) + (l_disappointedTotal (ft_nr r))) + (l_lostTotal (ft_nr r))) + (ft_up (fun y => p_queueLength (ft_nr r) y) 0 (tn (l_truckCount (ft_nr r)))) := by
  obtain ⟨X, rfl, hI, -⟩ := h
  rw [v_sumq hI, v_arrived, v_served, v_dis, v_lost, nI_add, nI_add, nI_add, ← hI.2.1.1]
