theorem sN_congr {f g : Nat → Nat} : ∀ {n : Nat}, (∀ i, i < n → f i = g i) → sN f n = sN g n := by
  intro n
  induction n with
  | zero => intro _; rfl
  | succ n ih =>
    intro h
    show sN f n + f n = sN g n + g n
    rw [ih (fun i hi => h i (by omega)), h n (by omega)]
theorem sN_add {f g : Nat → Nat} : ∀ {n : Nat}, sN (fun b => f b + g b) n = sN f n + sN g n := by
  intro n
  induction n with
  | zero => rfl
  | succ n ih =>
    show sN (fun b => f b + g b) n + (f n + g n) = (sN f n + f n) + (sN g n + g n)
    rw [ih]
    omega
theorem sN_zero : ∀ {n : Nat}, sN (fun _ => 0) n = 0 := by
  intro n
  induction n with
  | zero => rfl
  | succ n ih => show sN (fun _ => 0) n + 0 = 0; rw [ih]
theorem sN_swap {f : Nat → Nat → Nat} {m : Nat} : ∀ {n : Nat}, sN (fun a => sN (fun b => f a b) m) n = sN (fun b => sN (fun a => f a b) n) m := by
  intro n
  induction n with
  | zero => exact (sN_zero (n := m)).symm
  | succ n ih =>
    show sN (fun a => sN (fun b => f a b) m) n + sN (fun b => f n b) m = _
    rw [ih]
    exact (sN_add (f := fun b => sN (fun a => f a b) n) (g := fun b => f n b)).symm
theorem sN_ind {t0 : Nat} : ∀ {n : Nat}, sN (fun t => if t0 = t then 1 else 0) n = if t0 < n then 1 else 0 := by
  intro n
  induction n with
  | zero => rfl
  | succ n ih =>
    show sN (fun t => if t0 = t then 1 else 0) n + (if t0 = n then 1 else 0) = _
    rw [ih]
    by_cases h1 : t0 < n
    · rw [if_pos h1, if_neg (by omega), if_pos (by omega)]
    · rw [if_neg h1]
      by_cases h2 : t0 = n
      · rw [if_pos h2, if_pos (by omega)]
      · rw [if_neg h2, if_neg (by omega)]
theorem pu_cntP_L4 {X : pu_S} {r : Nat → Int32} (hr : r = pu_r X) (h : pu_I X) : ∀ (n i m : Nat), i + n = 5 → n < m → s_X4_countByPitches_L4 r (fun y1_4 y2_4 => y1_4) m (nI (sN (fun p => sN (aP X p) 7) i)) (nI i) = nI (sN (fun p => sN (aP X p) 7) 5) := by
  intro n
  induction n with
  | zero =>
    intro i m hi hm
    obtain ⟨m, rfl⟩ : ∃ q, m = q + 1 := ⟨m - 1, by omega⟩
    obtain rfl : i = 5 := by omega
    rw [s_X4_countByPitches_L4, if_pos (by decide)]
  | succ n ih =>
    intro i m hi hm
    obtain ⟨m, rfl⟩ : ∃ q, m = q + 1 := ⟨m - 1, by omega⟩
    rw [s_X4_countByPitches_L4, if_neg (show ¬ (5 : Int32) ≤ nI i from (nI_geI (a := 5) (by decide) (by omega)).mpr (by omega))]
    have e := pu_cntP_L11 hr h (p := i) (by omega) (nI (sN (fun p => sN (aP X p) 7) i)) (fun y1_11 y3_11 => s_X4_countByPitches_L4 r (fun y1_4 y2_4 => y1_4) m y1_11 (nI i + 1)) 7 0 (tn 7 + 1) (sN (fun p => sN (aP X p) 7) i) rfl (by decide)
    have e0 : sN (fun p => sN (aP X p) 7) i + sN (aP X i) 0 = sN (fun p => sN (aP X p) 7) i := rfl
    rw [e0, nI_0] at e
    rw [e, nI_1]
    exact ih (i + 1) m (by omega) (by omega)
def aN (X : pu_S) : Nat := sN (fun p => sN (aP X p) 7) 5
theorem pu_cntP {X : pu_S} (h : pu_I X) : s_X4_countByPitches (pu_r X) = nI (aN X) := by
  have e := pu_cntP_L4 rfl h 5 0 (tn 5 + 1) rfl (by decide)
  rw [show sN (fun p => sN (aP X p) 7) 0 = 0 from rfl, nI_0] at e
  exact e
/-- by weekdays, as the law counts -/
theorem pu_mn {X : pu_S} (h : pu_I X) : ∀ n, n ≤ 7 → ft_mn (pu_r X) n = nI (sN (fun w => sN (fun p => aP X p w) 5) n) := by
  intro n
  induction n with
  | zero => intro _; rfl
  | succ n ih =>
    intro hn
    show ft_up (ft_mi (pu_r X) (nI n)) (ft_mn (pu_r X) n) 5 = nI (sN (fun w => sN (fun p => aP X p w) 5) n + sN (fun p => aP X p n) 5)
    rw [ih (by omega)]
    refine ft_up_N 5 (fun p hp => ?_)
    cases hh : pH X (7 * p + n) with
    | none =>
      rw [ft_mi_p (by rw [v_truckAt h hp (by omega), hh]; rfl), show aP X p n = 0 from if_pos hh, nI_0]
    | some t =>
      rw [ft_mi_n (by rw [v_truckAt h hp (by omega), hh]; exact ft_h1_n (h.h31 _ (by omega) t hh)), show aP X p n = 1 from if_neg (by rw [hh]; intro e; cases e)]; rfl
theorem pu_mn7 {X : pu_S} (h : pu_I X) : ft_mn (pu_r X) 7 = nI (aN X) := by
  rw [pu_mn h 7 (Nat.le_refl 7)]
  exact congrArg nI sN_swap
theorem g_b4 {r : Nat → Int32} (h : ft_Gd r) : l_assignments (ft_nr r) = ft_mn r 7 := by
  obtain ⟨X, rfl, hI, -⟩ := h
  rw [pu_mn7 hI]
  exact pu_cntP hI
/-! by trucks -/
def aT (X : pu_S) (t d : Nat) : Nat := if ft_ph (pH X) (some t) d = none then 0 else 1
theorem pu_cntF_L4 {X : pu_S} {r : Nat → Int32} (hr : r = pu_r X) (h : pu_I X) {t : Nat} (ht : t < 2 ^ 31) : ∀ (n i m : Nat), i + n = 7 → n < m → s_X4_countFor_L4 r (nI t) (fun y1_4 y2_4 => y1_4) m (nI (sN (aT X t) i)) (nI i) = nI (sN (aT X t) 7) := by
  intro n
  induction n with
  | zero =>
    intro i m hi hm
    obtain ⟨m, rfl⟩ : ∃ q, m = q + 1 := ⟨m - 1, by omega⟩
    obtain rfl : i = 7 := by omega
    rw [s_X4_countFor_L4, if_pos (by decide)]
  | succ n ih =>
    intro i m hi hm
    obtain ⟨m, rfl⟩ : ∃ q, m = q + 1 := ⟨m - 1, by omega⟩
    have e : sN (aT X t) (i + 1) = sN (aT X t) i + aT X t i := rfl
    rw [s_X4_countFor_L4, if_neg (show ¬ (7 : Int32) ≤ nI i from (nI_geI (a := 7) (by decide) (by omega)).mpr (by omega)), show s_X4_pitchHeldBy r (nI t) (nI i) = ft_he (ft_ph (pH X) (some t) i) from by
      rw [hr]
      exact pu_pitchHeldBy (x := some t) (by omega) h.h31 (fun y e => by cases e; exact ht)]
    have th := ih (i + 1) m (by omega) (by omega)
    cases hh : ft_ph (pH X) (some t) i with
    | none =>
      have e2 : aT X t i = 0 := if_pos hh
      rw [if_pos (show ft_he none = -1 from rfl), nI_1]
      rw [e, e2, Nat.add_zero] at th
      exact th
    | some p =>
      have e2 : aT X t i = 1 := if_neg (by rw [hh]; intro e; cases e)
      have := (ft_ph_some hh).1
      rw [if_neg (ft_he_n (by omega)), nI_1, nI_1]
      rw [e, e2] at th
      exact th
theorem pu_cntF {X : pu_S} (h : pu_I X) {t : Nat} (ht : t < 2 ^ 31) : s_X4_countFor (pu_r X) (nI t) = nI (sN (aT X t) 7) := by
  have e := pu_cntF_L4 rfl h ht 7 0 (tn 7 + 1) rfl (by decide)
  rw [show sN (aT X t) 0 = 0 from rfl, nI_0] at e
  exact e
theorem pu_cntT_L4 {X : pu_S} {r : Nat → Int32} (hr : r = pu_r X) (h : pu_I X) : ∀ (n i m : Nat), i + n = pA X 0 → n < m → s_X4_countByTrucks_L4 r (fun y1_4 y2_4 => y1_4) m (nI (sN (fun t => sN (aT X t) 7) i)) (nI i) = nI (sN (fun t => sN (aT X t) 7) (pA X 0)) := by
  have h6 := h.1.1
  intro n
  induction n with
  | zero =>
    intro i m hi hm
    obtain ⟨m, rfl⟩ : ∃ q, m = q + 1 := ⟨m - 1, by omega⟩
    obtain rfl : i = pA X 0 := by omega
    rw [s_X4_countByTrucks_L4, hr, pu_rA (by omega), if_pos (Int32.le_refl _)]
  | succ n ih =>
    intro i m hi hm
    obtain ⟨m, rfl⟩ : ∃ q, m = q + 1 := ⟨m - 1, by omega⟩
    rw [s_X4_countByTrucks_L4, show r 0 = nI (pA X 0) from by rw [hr, pu_rA (by omega)], if_neg ((nI_geI (by omega) (by omega)).mpr (by omega)), show s_X4_countFor r (nI i) = nI (sN (aT X i) 7) from by rw [hr]; exact pu_cntF h (by omega), nI_add, nI_1]
    exact ih (i + 1) m (by omega) (by omega)
theorem pu_cntT {X : pu_S} (h : pu_I X) : s_X4_countByTrucks (pu_r X) = nI (sN (fun t => sN (aT X t) 7) (pA X 0)) := by
  have h6 := h.1.1
  have e := pu_cntT_L4 rfl h (pA X 0) 0 (tn (pu_r X 0) + 1) (by omega) (by rw [pu_rA (by omega), ft_tnI (by omega)]; omega)
  rw [show sN (fun t => sN (aT X t) 7) 0 = 0 from rfl, nI_0] at e
  exact e
theorem pu_day {X : pu_S} (h : pu_I X) {d : Nat} (hd : d < 7) : sN (fun t => aT X t d) (pA X 0) = sN (fun p => aP X p d) 5 := by
  have e1 : ∀ t, t < pA X 0 → aT X t d = sN (fun p => if pH X (7 * p + d) = some t then 1 else 0) 5 := by
    intro t ht
    unfold aT
    cases hh : ft_ph (pH X) (some t) d with
    | none =>
      rw [if_pos rfl, ← sN_zero (n := 5)]
      exact sN_congr (fun p hp => (if_neg (ft_ph_none hh p hp)).symm)
    | some p0 =>
      obtain ⟨hp5, hpt, -⟩ := ft_ph_some hh
      rw [if_neg (fun e => by cases e)]
      have e5 : sN (fun p => if p0 = p then 1 else 0) 5 = 1 := by rw [sN_ind, if_pos hp5]
      refine e5.symm.trans (sN_congr (fun p hp => ?_))
      by_cases e : p0 = p
      · subst e; rw [if_pos rfl, if_pos hpt]
      · rw [if_neg e, if_neg (fun h2 => e (h.2.2.2.2.2.2.1 p0 p d t hp5 hp hd hpt h2))]
  have e2 : ∀ p, p < 5 → sN (fun t => if pH X (7 * p + d) = some t then 1 else 0) (pA X 0) = aP X p d := by
    intro p hp
    unfold aP
    cases hh : pH X (7 * p + d) with
    | none =>
      rw [if_pos rfl]
      exact (sN_congr (g := fun _ => 0) (fun t ht => if_neg (show ¬ (none : Option Nat) = some t from fun e => by cases e))).trans sN_zero
    | some t0 =>
      have hlt := (h.2.2.2.2.2.1 _ (by omega) t0 hh).1
      rw [if_neg (fun e => by cases e)]
      have e5 : sN (fun t => if t0 = t then 1 else 0) (pA X 0) = 1 := by rw [sN_ind, if_pos hlt]
      refine Eq.trans (sN_congr (fun t ht => ?_)) e5
      by_cases e : t0 = t
      · subst e; rw [if_pos rfl, if_pos rfl]
      · rw [if_neg e, if_neg (fun h2 => e (Option.some.inj h2))]
  rw [sN_congr e1, sN_swap, sN_congr e2]
theorem pu_cntT2 {X : pu_S} (h : pu_I X) : s_X4_countByTrucks (pu_r X) = nI (aN X) := by
  rw [pu_cntT h]
  refine congrArg nI ?_
  have e1 : sN (fun t => sN (aT X t) 7) (pA X 0) = sN (fun d => sN (fun t => aT X t d) (pA X 0)) 7 := sN_swap
  rw [e1, sN_congr (fun d hd => pu_day h hd)]
  exact sN_swap
theorem g_b5 {r : Nat → Int32} (h : ft_Gd r) : l_assignmentsByTrucks (ft_nr r) = ft_mn r 7 := by
  obtain ⟨X, rfl, hI, -⟩ := h
  rw [pu_mn7 hI]
  exact pu_cntT2 hI
/-! consistent -/
theorem pu_ehp_L9 {X : pu_S} {r : Nat → Int32} (hr : r = pu_r X) (h : pu_I X) {p : Nat} (hp : p < 5) (K : Int32 → Int32) : ∀ (n i m : Nat), i + n = 7 → n < m → s_X4_everyHolderIsPermitted_L9 r (nI p) K m (nI i) = K (nI 7) := by
  have h6 := h.1.1
  intro n
  induction n with
  | zero =>
    intro i m hi hm
    obtain ⟨m, rfl⟩ : ∃ q, m = q + 1 := ⟨m - 1, by omega⟩
    obtain rfl : i = 7 := by omega
    rw [s_X4_everyHolderIsPermitted_L9, if_pos (by decide)]
  | succ n ih =>
    intro i m hi hm
    obtain ⟨m, rfl⟩ : ∃ q, m = q + 1 := ⟨m - 1, by omega⟩
    rw [s_X4_everyHolderIsPermitted_L9, if_neg (show ¬ (7 : Int32) ≤ nI i from (nI_geI (a := 7) (by decide) (by omega)).mpr (by omega)), hr, pu_holderOf hp (by omega), nI_1]
    have := ih (i + 1) m (by omega) (by omega)
    rw [hr] at this
    cases hh : pH X (7 * p + i) with
    | none => rw [if_pos (show ft_he none = -1 from rfl)]; exact this
    | some t =>
      have hf := h.2.2.2.2.2.1 _ (by omega) t hh
      rw [show (7 * p + i) % 7 = i by omega] at hf
      rw [if_neg (ft_he_n (by omega)), show ft_he (some t) = nI t from rfl, pu_isTruck1 h6 hf.1, if_neg (show ¬ (1 : Int32) = 0 by decide), ft_tnI (show t < 2 ^ 31 by omega), pu_isPermitted (h.2.2.2.1 t (by omega)).2.1 (by omega), if_pos hf.2, if_neg (show ¬ (1 : Int32) = 0 by decide)]
      exact this
theorem pu_ehp_L2 {X : pu_S} {r : Nat → Int32} (hr : r = pu_r X) (h : pu_I X) : ∀ (n i m : Nat), i + n = 5 → n < m → s_X4_everyHolderIsPermitted_L2 r (fun _ => 1) m (nI i) = 1 := by
  intro n
  induction n with
  | zero =>
    intro i m hi hm
    obtain ⟨m, rfl⟩ : ∃ q, m = q + 1 := ⟨m - 1, by omega⟩
    obtain rfl : i = 5 := by omega
    rw [s_X4_everyHolderIsPermitted_L2, if_pos (by decide)]
  | succ n ih =>
    intro i m hi hm
    obtain ⟨m, rfl⟩ : ∃ q, m = q + 1 := ⟨m - 1, by omega⟩
    have e := pu_ehp_L9 hr h (p := i) (by omega) (fun y2_9 => s_X4_everyHolderIsPermitted_L2 r (fun _ => 1) m (nI i + 1)) 7 0 (tn 7 + 1) rfl (by decide)
    rw [nI_0] at e
    rw [s_X4_everyHolderIsPermitted_L2, if_neg (show ¬ (5 : Int32) ≤ nI i from (nI_geI (a := 5) (by decide) (by omega)).mpr (by omega)), e, nI_1]
    exact ih (i + 1) m (by omega) (by omega)
theorem pu_ehp {X : pu_S} (h : pu_I X) : s_X4_everyHolderIsPermitted (pu_r X) = 1 := by
  have e := pu_ehp_L2 rfl h 5 0 (tn 5 + 1) rfl (by decide)
  rw [nI_0] at e
  exact e
theorem g_b6 {r : Nat → Int32} (h : ft_Gd r) : l_isConsistent (ft_nr r) = 1 := by
  obtain ⟨X, rfl, hI, -⟩ := h
  have hb := hI.2.1
  have key : ∀ (q : Nat → Nat → Int32) (o : Nat → Int32), q 0 = pu_r X → s_X7_isConsistent q o = 1 := by
    intro q o hq
    unfold s_X7_isConsistent
    rw [hq, if_pos ((pu_cntP hI).trans (pu_cntT2 hI).symm), pu_rA (by omega), pu_rA (by omega), pu_rA (by omega), pu_rA (by omega), pu_sumQ, nI_add, nI_add, nI_add, if_pos (congrArg nI hb.1), pu_ehp hI, if_neg (show ¬ (1 : Int32) = 0 by decide), pu_sumO, if_pos (congrArg nI hb.2.1)]
  exact key _ _ rfl
