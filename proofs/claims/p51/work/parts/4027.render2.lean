/-! the signs of a day's text -/
def td (S : Nat → Int32) (i : Nat) (o : Nat → Int32) (g : ft_G) : Prop := ft_ok261 o g i ∧ o 7 = nI i ∧ ∀ p, p < i → ft_ch (g.2.1.2 p) = S p
theorem td.z {S : Nat → Int32} {o : Nat → Int32} {g : ft_G} {n : Nat} (h : ft_ok261 o g n) : td S 0 (ft_oz261 o g).1 (ft_oz261 o g).2 := by
  obtain ⟨h1, n, h2, h3, h4⟩ := tb.z h
  obtain rfl : n = 0 := by omega
  exact ⟨h1, h4, fun p hp => absurd hp (Nat.not_lt_zero p)⟩
theorem td.cap {S : Nat → Int32} {i : Nat} {o : Nat → Int32} {g : ft_G} (h : td S i o g) (hi : i ≤ 70) : i ≤ g.2.1.1 := by
  obtain ⟨e1, e2, e3, e4⟩ := h.1.cnt hi
  rw [h.2.1, ft_tnI (by omega)] at e3
  exact e3
theorem td.c {S : Nat → Int32} {i : Nat} {o : Nat → Int32} {g : ft_G} (h : td S i o g) (hi : i + 1 ≤ 70) {x : Int32} (hS : ft_ch (ft_b8 x.toInt8.toInt32) = S i) : td S (i + 1) (ft_oc261 o g x).1 (ft_oc261 o g x).2 := by
  have hcap := h.cap (by omega)
  have hn : tn (o 7) = i := by rw [h.2.1]; exact ft_tnI (by omega)
  refine ⟨h.1.c hi, ?_, fun p hp => ?_⟩
  · show o 7 + 1 = _
    rw [h.2.1, nI_1]
  · show ft_ch (va_up (ft_en (tn (o 7) + 1) (o 9, o 7, g.2.1.1, g.2.1.2)).2.2.2 (tn (o 7)) (ft_b8 x.toInt8.toInt32) p) = S p
    rw [hn]
    by_cases e : p = i
    · subst e; rw [va_up_self]; exact hS
    · rw [va_up_ne _ _ e, en_keep (show p < g.2.1.1 by omega)]
      exact h.2.2 p (by omega)
theorem td.i {S : Nat → Int32} {i v : Nat} {o : Nat → Int32} {g : ft_G} (h : td S i o g) (hi : i + 1 ≤ 70) (hv : v < 10) (hS : ft_ch (ft_b8 (nI (48 + v))) = S i) : td S (i + 1) (ft_oi261 o g (nI v)).1 (ft_oi261 o g (nI v)).2 := by
  have hcap := h.cap (by omega)
  have hn : tn (o 7) = i := by rw [h.2.1]; exact ft_tnI (by omega)
  have hx : tn (nI v) = v := ft_tnI (by omega)
  have hd : sb_dg v = 1 := ft_dg1 hv
  refine ⟨h.1.i (d := 1) (by rw [hx, hd]; exact Nat.le_refl _) hi, ?_, fun p hp => ?_⟩
  · show nI (tn (o 7) + sb_dg (tn (nI v))) = _
    rw [hn, hx, hd]
  · show ft_ch (ft_dgs 6 (tn (nI v)) (tn (o 7) + sb_dg (tn (nI v))) (ft_en (tn (o 7) + sb_dg (tn (nI v))) (o 9, o 7, g.2.1.1, g.2.1.2)).2.2.2 p) = S p
    rw [hn, hx, hd, ft_dgs, if_neg (by omega), if_neg (by omega), show v % 10 = v by omega, show i + 1 - 1 = i by omega]
    by_cases e : p = i
    · subst e; rw [va_up_self]; exact hS
    · rw [va_up_ne _ _ e, en_keep (show p < g.2.1.1 by omega)]
      exact h.2.2 p (by omega)
theorem rd_L14 {q : Nat → Nat → Int32} {o1 : Nat → Int32} {g1 : ft_G} {x : Int32} {S : Nat → Int32} (hS : ∀ i, i < 5 → (s_X4_holderOf (q 0) (nI i) x = -1 ∧ S i = 45) ∨ ∃ v, v < 10 ∧ s_X4_holderOf (q 0) (nI i) x = nI v ∧ ft_ch (ft_b8 (nI (48 + v))) = S i) : ∀ (n i m : Nat) (y : Int32) (o : Nat → Int32) (g : ft_G), i + n = 5 → y = nI i → n < m → td S i o g → ∃ o' g', s_X7_renderDay_L14 q o1 g1 x (fun y2_14 o_14 g_14 => (.ok (s_J4_length_8abf5 (o_14 9, o_14 7, g_14.2.1.1, g_14.2.1.2)), (o_14, g_14))) m y o g = (.ok 5, (o', g')) ∧ td S 5 o' g' := by
  intro n
  induction n with
  | zero =>
    intro i m y o g hi hy hm h
    subst hy
    obtain ⟨m, rfl⟩ : ∃ q, m = q + 1 := ⟨m - 1, by omega⟩
    obtain rfl : i = 5 := by omega
    rw [s_X7_renderDay_L14, if_pos (by decide)]
    refine ⟨o, g, ?_, h⟩
    show (Except.ok (o 7), (o, g)) = _
    rw [h.2.1]
    rfl
  | succ n ih =>
    intro i m y o g hi hy hm h
    subst hy
    obtain ⟨m, rfl⟩ : ∃ q, m = q + 1 := ⟨m - 1, by omega⟩
    rw [s_X7_renderDay_L14, if_neg (show ¬ (5 : Int32) ≤ nI i from (nI_geI (a := 5) (by decide) (by omega)).mpr (by omega)), nI_1]
    rcases hS i (by omega) with ⟨h1, h2⟩ | ⟨v, hv, h1, h2⟩
    · rw [if_pos h1]
      exact ih (i + 1) m _ _ _ (by omega) rfl (by omega) (h.c (by omega) (by rw [h2]; decide))
    · rw [h1, if_neg (show ¬ nI v = -1 from fun e => nI_pos (n := v) (by omega) (by rw [e]; decide))]
      exact ih (i + 1) m _ _ _ (by omega) rfl (by omega) (h.i (by omega) hv h2)
theorem ft_sgv : ∀ t, t < 10 → ft_ch (ft_b8 (nI (48 + t))) = ((48 + nI t).toUInt32 % 65536).toInt32 := by decide +kernel
theorem rd_ex {c : Nat} {σ : ft_Sg} (h : ft_Jd c σ) {x : Int32} (hx : ¬ s_X7_isWeekday x = 0) : ∃ o' g', l_renderDay σ x = (.ok 5, (σ.1, σ.2.1, o', g')) ∧ td (fun i => ft_sg (σ.1 0) (nI i) x) 5 o' g' := by
  obtain ⟨X, x1, x2, x3, x4⟩ := h.2.1 0 (by omega)
  obtain ⟨d, hd, rfl⟩ := g_wd hx
  have h6 := x2.1.1
  have hS : ∀ i, i < 5 → (s_X4_holderOf (σ.1 0) (nI i) (nI d) = -1 ∧ ft_sg (σ.1 0) (nI i) (nI d) = 45) ∨ ∃ v, v < 10 ∧ s_X4_holderOf (σ.1 0) (nI i) (nI d) = nI v ∧ ft_ch (ft_b8 (nI (48 + v))) = ft_sg (σ.1 0) (nI i) (nI d) := by
    intro i hi
    rw [x1, pu_holderOf hi hd]
    have ev := v_truckAt x2 hi hd
    cases hh : pH X (7 * i + d) with
    | none =>
      rw [hh] at ev
      exact Or.inl ⟨rfl, ft_sg_p ev⟩
    | some t =>
      rw [hh] at ev
      have hlt := (x2.2.2.2.2.2.1 _ (by omega) t hh).1
      refine Or.inr ⟨t, by omega, rfl, ?_⟩
      rw [ft_sg_n (by rw [ev]; exact ft_h1_n (by omega)), ev]
      exact ft_sgv t (by omega)
  obtain ⟨o', g', e, ht⟩ := rd_L14 (o1 := σ.2.2.1) (g1 := σ.2.2.2) hS 5 0 (tn 5 + 1) 0 _ _ rfl nI_0.symm (by decide) (td.z h.2.2.2.2.1)
  refine ⟨o', g', ?_, ht⟩
  have e2 : s_X7_renderDay σ.1 σ.2.2.1 σ.2.2.2 (nI d) = (.ok 5, (o', g')) := by
    unfold s_X7_renderDay s_X7_needWeekday
    rw [if_neg hx, ft_xs_k]
    exact e
  unfold l_renderDay
  rw [e2]
theorem rd_er {σ : ft_Sg} {x : Int32} (hx : s_X7_isWeekday x = 0) : ∃ E, l_renderDay σ x = (.error E, σ) := by
  have e2 : ∃ E, s_X7_renderDay σ.1 σ.2.2.1 σ.2.2.2 x = (.error E, (σ.2.2.1, σ.2.2.2)) := by
    unfold s_X7_renderDay s_X7_needWeekday
    rw [if_pos hx]
    exact ⟨_, rfl⟩
  obtain ⟨E, e2⟩ := e2
  refine ⟨E, ?_⟩
  unfold l_renderDay
  rw [e2]
theorem j_k_renderDay {c : Nat} {σ : ft_Sg} (x : Int32) (h : ft_Jd c σ) (_hc : c + 0 ≤ 1000) : ft_Jd (c + 0) (l_renderDay σ x).2 := by
  by_cases hx : s_X7_isWeekday x = 0
  · obtain ⟨E, e⟩ := rd_er (σ := σ) hx
    rw [e]; exact h
  · obtain ⟨o', g', e, ht⟩ := rd_ex h hx
    have hk := tk_day σ.1 σ.2.2.1 σ.2.2.2 x
    have e1 : (s_X7_renderDay σ.1 σ.2.2.1 σ.2.2.2 x).2 = (o', g') := by
      have := congrArg (fun u => u.2.2.2) e
      exact this
    unfold tke at hk
    rw [e1] at hk
    rw [e]
    exact hk.J h (ht.1.mono (by omega))
theorem j_rd1 {c : Nat} {σ : ft_Sg} (h : ft_Jd c σ) (_hc : c ≤ 1000) : ∀ x : Int32, ¬ s_X7_isWeekday x = 0 → (l_renderDay σ x).1 = .ok 5 := by
  intro x hx
  obtain ⟨o', g', e, -⟩ := rd_ex h hx
  rw [e]
theorem j_oa {c : Nat} {σ : ft_Sg} {r : Nat → Int32} (h : ft_Jd c σ) (_hc : c ≤ 1000) (hq : σ.1 0 = r) : ∀ (x p : Int32) (i : Nat), ¬ s_X7_isWeekday x = 0 → p = nI i → i + 1 ≤ 5 → l_outputAt (l_renderDay σ x).2 p = .ok (ft_sg r p x) := by
  intro x p i hx hp hi
  subst hq; subst hp
  obtain ⟨o', g', e, ht⟩ := rd_ex h hx
  rw [e]
  unfold l_outputAt s_X7_outputAt
  rw [if_neg (nI_pos (by omega))]
  have el : nI i < s_J4_length_8abf5 (o' 9, o' 7, g'.2.1.1, g'.2.1.2) := by
    show nI i < o' 7
    rw [ht.2.1]
    exact nI_lt (by omega) (by omega)
  rw [if_pos el]
  refine congrArg Except.ok ?_
  show ft_ch (g'.2.1.2 (tn (nI i))) = _
  rw [ft_tnI (by omega)]
  exact ht.2.2 i (by omega)
theorem j_hH {c : Nat} {σ : ft_Sg} (h : ft_Jd c σ) (_hc : c ≤ 1000) : ∀ (x y : Int32), s_X4_holderOf (σ.1 0) y x = -1 ∨ (¬ s_X4_holderOf (σ.1 0) y x < 0 ∧ tn (s_X4_holderOf (σ.1 0) y x) < 10) := by
  obtain ⟨X, x1, x2, x3, x4⟩ := h.2.1 0 (by omega)
  intro x y
  rcases pu_isPitch y with hp | ⟨p, hp, rfl⟩
  · exact Or.inl (pu_holderN (Or.inl hp))
  · rcases pu_isWeekday x with hd | ⟨d, hd, rfl⟩
    · exact Or.inl (pu_holderN (Or.inr hd))
    · rw [x1, pu_holderOf hp hd]
      cases hh : pH X (7 * p + d) with
      | none => exact Or.inl rfl
      | some t =>
        have hlt := (x2.2.2.2.2.2.1 _ (by omega) t hh).1
        have h6 := x2.1.1
        refine Or.inr ⟨nI_pos (by omega), ?_⟩
        show tn (nI t) < 10
        rw [ft_tnI (by omega)]
        omega
/-! a truck's text -/
theorem pu_por {X : pu_S} (h : pu_I X) {t : Nat} (ht : t < 6) : ∀ z : Int32, ¬ s_X6_portionsOf (pu_r X) (51 + 17 * t) z < 0 ∧ tn (s_X6_portionsOf (pu_r X) (51 + 17 * t) z) < 1000 := by
  intro z
  rcases pu_isDish z with hz | ⟨d, hd, rfl⟩
  · unfold s_X6_portionsOf
    rw [if_pos hz]
    exact ⟨by decide, by decide⟩
  · have := (h.2.2.2.1 t ht).2.2.1 d hd
    rw [pu_portions hd, ft_tnI (by omega)]
    exact ⟨nI_pos (by omega), by omega⟩
theorem pu_earn {X : pu_S} (h : pu_I X) (hT : pu_T X) {c : Nat} (hb : 60 * pA X 1 + pA X 2 ≤ 900 * c) (hc : c ≤ 1000) {t : Nat} (ht : t < 6) : pF X t 0 ≤ 20 * pA X 5 ∧ pA X 5 ≤ pA X 4 ∧ pA X 4 ≤ 2700 * c ∧ pF X t 0 < 2 ^ 31 := by
  obtain ⟨b1, b2, b3⟩ := h.2.1
  have h1 := s6_le (g := fun t => pF X t 0) ht
  have h2 := hT.2
  have h1' : pF X t 0 ≤ s6 (fun t => pF X t 0) := h1
  refine ⟨by omega, by omega, by omega, by omega⟩
theorem pu_pT {X : pu_S} {t : Nat} (h : pu_I X) (ht : t < 6) (h31 : pA X 1 < 2 ^ 31) : s_X4_pitchToday (pu_r X) (nI t) = -1 ∨ (¬ s_X4_pitchToday (pu_r X) (nI t) < 0 ∧ tn (s_X4_pitchToday (pu_r X) (nI t)) < 10) := by
  rw [pu_pitchToday h (by omega) h31]
  cases hh : ft_ph (pH X) (some t) (pA X 1 % 7) with
  | none => exact Or.inl rfl
  | some p =>
    have := (ft_ph_some hh).1
    refine Or.inr ⟨nI_pos (by omega), ?_⟩
    show tn (nI p) < 10
    rw [ft_tnI (by omega)]
    omega
theorem j_rtH {c : Nat} {σ : ft_Sg} {r : Nat → Int32} (h : ft_Jd c σ) (hc : c ≤ 1000) (hq : σ.1 0 = r) : ∀ (y : Int32) (i : Nat), y = nI i → i + 1 ≤ tn (l_truckCount (ft_nr r)) → tn y < 10 ∧ (∀ z : Int32, ¬ s_X6_portionsOf (σ.1 0) (51 + 17 * tn y) z < 0 ∧ tn (s_X6_portionsOf (σ.1 0) (51 + 17 * tn y) z) < 1000) ∧ ¬ σ.1 0 (51 + 17 * tn y + 0) < 0 ∧ (s_X4_pitchToday (σ.1 0) y = -1 ∨ (¬ s_X4_pitchToday (σ.1 0) y < 0 ∧ tn (s_X4_pitchToday (σ.1 0) y) < 10)) ∧ tn (σ.1 0 (51 + 17 * tn y + 2)) ≤ 9 := by
  obtain ⟨X, x1, x2, x3, x4⟩ := h.2.1 0 (by omega)
  subst hq
  intro y i hy hi
  subst hy
  rw [x1] at hi ⊢
  have hlt := g_lt x2.1 hi
  have h6 := x2.1.1
  have h9 := (x2.2.2.2.1 i (by omega)).1
  rw [ft_tnI (show i < 2 ^ 31 by omega), pu_rF (by omega), pu_rF (by omega)]
  refine ⟨by omega, pu_por x2 (by omega), nI_pos (pu_earn x2 x3 x4 hc (by omega)).2.2.2, pu_pT x2 (by omega) (by omega), ?_⟩
  rw [ft_tnI (by omega)]
  exact h9
theorem rt_ex {c : Nat} {σ : ft_Sg} (h : ft_Jd c σ) (hc : c ≤ 1000) {X : pu_S} (x1 : σ.1 0 = pu_r X) (x2 : pu_I X) (h31 : pA X 1 < 2 ^ 31) {t : Nat} (ht : t < pA X 0) : tbe (if s_X4_pitchToday (pu_r X) (nI t) = -1 then 12 else 14 + pF X t 2) (s_X7_renderTruck σ.1 σ.2.2.1 σ.2.2.2 (nI t)) := by
  have h6 := x2.1.1
  have h9 := (x2.2.2.2.1 t (by omega)).1
  have e := tb_truck (q := σ.1) (x := nI t) (Q := pF X t 2) h.2.2.2.2.1 (by rw [x1]; exact nT x2.1 ht) (by rw [ft_tnI (by omega)]; omega) (by rw [x1, ft_tnI (by omega)]; exact fun z => (pu_por x2 (by omega) z).2) (by rw [x1, ft_tnI (by omega), pu_rF (by omega)]) h9 (by
    rw [x1]
    rcases pu_pT x2 (t := t) (by omega) h31 with e | e
    · exact Or.inl e
    · exact Or.inr e.2)
  rw [x1] at e
  exact e
theorem j_k_renderTruck {c : Nat} {σ : ft_Sg} (x : Int32) (h : ft_Jd c σ) (hc : c + 0 ≤ 1000) : ft_Jd (c + 0) (l_renderTruck σ x).2 := by
  obtain ⟨X, x1, x2, x3, x4⟩ := h.2.1 0 (by omega)
  have hk := tk_truck σ.1 σ.2.2.1 σ.2.2.2 x
  rcases pu_isTruck x2.1.1 x with hx | ⟨t, ht, rfl⟩
  · have e2 : ∃ E, s_X7_renderTruck σ.1 σ.2.2.1 σ.2.2.2 x = (.error E, (σ.2.2.1, σ.2.2.2)) := by
      unfold s_X7_renderTruck s_X7_needTruck
      rw [if_pos (by rw [x1]; exact hx)]
      exact ⟨_, rfl⟩
    obtain ⟨E, e2⟩ := e2
    unfold l_renderTruck
    rw [e2]
    exact h
  · obtain ⟨o', g', n, b, e, -, -, hb, hok⟩ := rt_ex h (by omega) x1 x2 (by omega) ht
    unfold tke at hk
    unfold l_renderTruck
    rw [e] at hk ⊢
    exact hk.J h (hok.mono hb)
theorem rt_v {c : Nat} {σ : ft_Sg} {r : Nat → Int32} (h : ft_Jd c σ) (hc : c ≤ 1000) (hq : σ.1 0 = r) (y : Int32) (i : Nat) (hy : y = nI i) (hi : i + 1 ≤ tn (l_truckCount (ft_nr r))) : ∃ n X, r = pu_r X ∧ pu_I X ∧ pA X 1 < 2 ^ 31 ∧ i < pA X 0 ∧ (l_renderTruck σ y).1 = .ok (nI n) ∧ p_renderTruck σ y = nI n ∧ n ≤ 70 ∧ (if s_X4_pitchToday r (nI i) = -1 then 12 else 14 + pF X i 2) ≤ n := by
  obtain ⟨X, x1, x2, x3, x4⟩ := h.2.1 0 (by omega)
  subst hq
  subst hy
  rw [x1] at hi ⊢
  have hlt := g_lt x2.1 hi
  obtain ⟨o', g', n, b, e, h1, h2, hb, hok⟩ := rt_ex h (by omega) x1 x2 (by omega) hlt
  have e1 : (l_renderTruck σ (nI i)).1 = .ok (nI n) := by
    show (s_X7_renderTruck σ.1 σ.2.2.1 σ.2.2.2 (nI i)).1 = _
    rw [e]
  exact ⟨n, X, rfl, x2, by omega, hlt, e1, by unfold p_renderTruck; rw [e1], h2, h1⟩
theorem j_rtv {c : Nat} {σ : ft_Sg} {r : Nat → Int32} (h : ft_Jd c σ) (hc : c ≤ 1000) (hq : σ.1 0 = r) : ∀ (y : Int32) (i : Nat), y = nI i → i + 1 ≤ tn (l_truckCount (ft_nr r)) → (l_renderTruck σ y).1 = .ok (p_renderTruck σ y) := by
  intro y i hy hi
  obtain ⟨n, X, -, -, -, -, e1, e2, -⟩ := rt_v h hc hq y i hy hi
  rw [e1, e2]
theorem rt_w {X : pu_S} {i : Nat} (hI : pu_I X) (hlt : i < pA X 0) (h31 : pA X 1 < 2 ^ 31) : w_pitchOf (ft_nr (pu_r X)) (nI i) (ft_td (pu_r X)) = -1000 ↔ s_X4_pitchToday (pu_r X) (nI i) = -1 := by
  have h6 := hI.1.1
  rw [v_td h31, v_wpitchOf hI hlt (Nat.mod_lt _ (by decide)), pu_pitchToday hI (by omega) h31]
  cases hh : ft_ph (pH X) (some i) (pA X 1 % 7) with
  | none => exact ⟨fun _ => rfl, fun _ => rfl⟩
  | some p =>
    have := (ft_ph_some hh).1
    exact ⟨fun e => absurd e (ft_h1_n (by omega)), fun e => absurd e (ft_he_n (by omega))⟩
theorem j_rt0 {c : Nat} {σ : ft_Sg} {r : Nat → Int32} (h : ft_Jd c σ) (hc : c ≤ 1000) (hq : σ.1 0 = r) : ∀ (y : Int32) (i : Nat), y = nI i → i + 1 ≤ tn (l_truckCount (ft_nr r)) → w_pitchOf (ft_nr r) y (ft_td r) = -1000 → ¬ p_renderTruck σ y < 12 + 0 := by
  intro y i hy hi hw
  obtain ⟨n, X, hr, hI, h31, hlt, -, e2, h70, hn⟩ := rt_v h hc hq y i hy hi
  subst hr
  subst hy
  rw [if_pos ((rt_w hI hlt h31).mp hw)] at hn
  rw [e2]
  exact nI_nlt (b := 12) hn (by omega)
theorem j_rt1 {c : Nat} {σ : ft_Sg} {r : Nat → Int32} (h : ft_Jd c σ) (hc : c ≤ 1000) (hq : σ.1 0 = r) : ∀ (y : Int32) (i : Nat), y = nI i → i + 1 ≤ tn (l_truckCount (ft_nr r)) → ¬ w_pitchOf (ft_nr r) y (ft_td r) = -1000 → ¬ p_renderTruck σ y < 12 + (2 + (p_queueLength (ft_nr r) y)) := by
  intro y i hy hi hw
  obtain ⟨n, X, hr, hI, h31, hlt, -, e2, h70, hn⟩ := rt_v h hc hq y i hy hi
  subst hr
  subst hy
  rw [if_neg (fun e => hw ((rt_w hI hlt h31).mpr e))] at hn
  rw [e2, v_queue hI.1 hlt, show (2 : Int32) = nI 2 from rfl, show (12 : Int32) = nI 12 from rfl, nI_add, nI_add]
  exact nI_nlt (by omega) (by omega)
