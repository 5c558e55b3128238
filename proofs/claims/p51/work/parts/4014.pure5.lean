/-! customers arrive -/
theorem pu_I.scal {X Y : pu_S} (h : pu_I X) (h0 : pA Y 0 = pA X 0) (h1 : pA Y 1 = pA X 1) (h3 : pA Y 3 ≤ 3) (hY : Y.2 = X.2) (hb : pIb Y) : pu_I Y := by
  obtain ⟨ha, -, hc, hd, he, hf, hg, hh⟩ := h
  have eP : pP Y = pP X := congrArg Prod.fst hY
  have eH : pH Y = pH X := congrArg (fun q => q.2.2.1) hY
  have eF : pF Y = pF X := congrArg (fun q => q.2.2.2) hY
  refine ⟨⟨by rw [h0]; exact ha.1, h3⟩, hb, ?_, ?_, ?_, ?_, ?_, ?_⟩
  · unfold pIc at *; rw [eP]; exact hc
  · unfold pId at *; rw [eF]; exact hd
  · unfold pIe at *; rw [eF, h0]; exact he
  · unfold pIf at *; rw [eF, eH, h0]; exact hf
  · unfold pIg at *; rw [eH]; exact hg
  · unfold pIh at *; rw [eF, eH, h1]; exact hh
theorem pu_join {X : pu_S} {t w : Nat} (hq : pF X t 2 ≤ 9) : s_X6_joinQueue (pu_r X) (51 + 17 * t) (nI w) = if pF X t 2 < 9 then (1, pu_r (uF (uF X t (8 + pF X t 2) w) t 2 (pF X t 2 + 1))) else (0, pu_r X) := by
  unfold s_X6_joinQueue
  rw [pu_rF (k := 2) (by omega), if_neg (nI_pos (by omega))]
  by_cases h : pF X t 2 < 9
  · rw [if_pos (show nI (pF X t 2) < (9 : Int32) from nI_lt (b := 9) h (by decide)), if_pos h, ft_tnI (by omega), Nat.add_assoc (51 + 17 * t) 8 (pF X t 2), pu_uF (by omega), pu_rF (k := 2) (by omega), uF_k (by omega), nI_1, pu_uF (by omega)]
  · rw [if_neg (show ¬ nI (pF X t 2) < (9 : Int32) from nI_nlt (b := 9) (by omega) (by omega)), if_neg h]
theorem pu_short_L {X : pu_S} (ha : pIa X) (hf : pIf X) (hd : pA X 1 < 2 ^ 31) (P : Option Nat → Prop) (h0 : P none) (hP : ∀ p, p < 5 → ∀ t, pH X (7 * p + pA X 1 % 7) = some t → P (some t)) : ∀ (n i m : Nat) (o : Option Nat), P o → i + n = 5 → n < m → P (s_X4_shortestOpenQueue_L9 (pu_r X) (fun y1_9 y3_9 => ft_op y1_9 (none) (fun j_o => some j_o)) m o (nI i)) := by
  intro n
  induction n with
  | zero =>
    intro i m o ho hi hm
    obtain ⟨m, rfl⟩ : ∃ q, m = q + 1 := ⟨m - 1, by omega⟩
    obtain rfl : i = 5 := by omega
    rw [s_X4_shortestOpenQueue_L9]
    cases o with
    | none => rw [ft_op_n, if_pos (by decide)]; exact ho
    | some j => rw [ft_op_s, if_pos (by decide)]; exact ho
  | succ n ih =>
    intro i m o ho hi hm
    obtain ⟨m, rfl⟩ : ∃ q, m = q + 1 := ⟨m - 1, by omega⟩
    have hm7 := Nat.mod_lt (pA X 1) (show 0 < 7 by decide)
    have hnle : ¬ (5 : Int32) ≤ nI i := (nI_geI (a := 5) (by decide) (by omega)).mpr (by omega)
    have hhold : s_X4_holderOf (pu_r X) (nI i) (s_X4_today (pu_r X)) = ft_he (pH X (7 * i + pA X 1 % 7)) := by
      rw [pu_today hd]
      exact pu_holderOf (by omega) hm7
    have hno : s_X4_isTruck (pu_r X) (ft_he none) = 0 := pu_isTruckN
    have hyes : ∀ t, pH X (7 * i + pA X 1 % 7) = some t → ¬ s_X4_isTruck (pu_r X) (ft_he (some t)) = 0 ∧ tn (ft_he (some t)) = t := by
      intro t hh
      have ht := (hf _ (by omega) t hh).1
      have h6 := ha.1
      exact ⟨by rw [show ft_he (some t) = nI t from rfl, pu_isTruck1 ha.1 ht]; decide, ft_tnI (by omega)⟩
    rw [s_X4_shortestOpenQueue_L9]
    cases o with
    | none =>
      rw [ft_op_n, if_neg hnle, hhold, nI_1]
      cases hh : pH X (7 * i + pA X 1 % 7) with
      | none => rw [if_pos hno]; exact ih (i + 1) m none h0 (by omega) (by omega)
      | some t => rw [if_neg (hyes t hh).1, (hyes t hh).2]; exact ih (i + 1) m (some t) (hP i (by omega) t hh) (by omega) (by omega)
    | some j =>
      rw [ft_op_s, if_neg hnle, hhold, nI_1]
      cases hh : pH X (7 * i + pA X 1 % 7) with
      | none => rw [if_pos hno]; exact ih (i + 1) m (some j) ho (by omega) (by omega)
      | some t =>
        rw [if_neg (hyes t hh).1, (hyes t hh).2]
        split
        · exact ih (i + 1) m (some j) ho (by omega) (by omega)
        · exact ih (i + 1) m (some t) (hP i (by omega) t hh) (by omega) (by omega)
theorem pu_short {X : pu_S} (ha : pIa X) (hf : pIf X) (hd : pA X 1 < 2 ^ 31) : ∀ j, s_X4_shortestOpenQueue (pu_r X) = some j → ∃ p, p < 5 ∧ pH X (7 * p + pA X 1 % 7) = some j := by
  have h := pu_short_L ha hf hd (fun o => ∀ j, o = some j → ∃ p, p < 5 ∧ pH X (7 * p + pA X 1 % 7) = some j) (fun j h => by cases h) (fun p hp t ht j h => ⟨p, hp, ht.trans h⟩) 5 0 (tn 5 + 1) none (fun j h => by cases h) rfl (by decide)
  rw [nI_0] at h
  exact h
theorem pu_I.lost {X : pu_S} (h : pu_I X) : pu_I (uA (uA X 4 (pA X 4 + 1)) 7 (pA X 7 + 1)) := by
  refine h.scal rfl rfl h.1.2 rfl ⟨?_, h.2.1.2.1, h.2.1.2.2⟩
  have := h.2.1.1
  show pA X 4 + 1 = pA X 5 + pA X 6 + (pA X 7 + 1) + s6 (fun t => pF X t 2)
  omega
theorem pu_customer {X : pu_S} (h : pu_I X) (hd : pA X 1 < 2 ^ 31) (h4 : pA X 4 < 2 ^ 31) : ∃ Y, (∀ F : (Nat → Int32) → (Nat → Int32), (ft_op (s_X4_shortestOpenQueue (va_up (pu_r X) 4 ((pu_r X 4) + 1))) (F (va_up (va_up (pu_r X) 4 ((pu_r X 4) + 1)) 7 (((va_up (pu_r X) 4 ((pu_r X 4) + 1)) 7) + 1))) (fun j_30 => if ((s_X6_joinQueue (va_up (pu_r X) 4 ((pu_r X 4) + 1)) (51 + 17 * j_30) (s_J9_floorMod_7cf53 (pu_r X 4) 4)).1) = 0 then (F (va_up ((s_X6_joinQueue (va_up (pu_r X) 4 ((pu_r X 4) + 1)) (51 + 17 * j_30) (s_J9_floorMod_7cf53 (pu_r X 4) 4)).2) 7 ((((s_X6_joinQueue (va_up (pu_r X) 4 ((pu_r X 4) + 1)) (51 + 17 * j_30) (s_J9_floorMod_7cf53 (pu_r X 4) 4)).2) 7) + 1))) else (F ((s_X6_joinQueue (va_up (pu_r X) 4 ((pu_r X 4) + 1)) (51 + 17 * j_30) (s_J9_floorMod_7cf53 (pu_r X 4) 4)).2)))) = F (pu_r Y)) ∧ pu_I Y ∧ pu_R X Y ∧ pA Y 1 = pA X 1 ∧ pA Y 2 = pA X 2 ∧ pA Y 4 = pA X 4 + 1 := by
  have e0 : pu_r X 4 = nI (pA X 4) := pu_rA (by omega)
  have e1 : va_up (pu_r X) 4 ((pu_r X 4) + 1) = pu_r (uA X 4 (pA X 4 + 1)) := by rw [e0, nI_1, pu_uA (by omega)]
  have e7 : va_up (pu_r (uA X 4 (pA X 4 + 1))) 7 (((pu_r (uA X 4 (pA X 4 + 1))) 7) + 1) = pu_r (uA (uA X 4 (pA X 4 + 1)) 7 (pA X 7 + 1)) := by
    rw [pu_rA (by omega), nI_1, pu_uA (by omega)]; rfl
  have ef : s_J9_floorMod_7cf53 (pu_r X 4) 4 = nI (pA X 4 % 4) := by rw [e0]; exact pu_fm h4 (d := 4) (by decide) (by decide)
  have lost : pu_I (uA (uA X 4 (pA X 4 + 1)) 7 (pA X 7 + 1)) ∧ pu_R X (uA (uA X 4 (pA X 4 + 1)) 7 (pA X 7 + 1)) ∧ pA (uA (uA X 4 (pA X 4 + 1)) 7 (pA X 7 + 1)) 1 = pA X 1 ∧ pA (uA (uA X 4 (pA X 4 + 1)) 7 (pA X 7 + 1)) 2 = pA X 2 ∧ pA (uA (uA X 4 (pA X 4 + 1)) 7 (pA X 7 + 1)) 4 = pA X 4 + 1 :=
    ⟨h.lost, ⟨⟨rfl, rfl, rfl, rfl, fun _ => rfl⟩, fun d _ => ⟨rfl, Nat.le_refl _⟩, rfl⟩, rfl, rfl, rfl⟩
  rw [e1, ef]
  cases ho : s_X4_shortestOpenQueue (pu_r (uA X 4 (pA X 4 + 1))) with
  | none =>
    refine ⟨_, fun F => ?_, lost⟩
    rw [ft_op_n, e7]
  | some j =>
    obtain ⟨p, hp, hhold⟩ := pu_short (X := uA X 4 (pA X 4 + 1)) h.1 h.2.2.2.2.2.1 hd j ho
    have hhold : pH X (7 * p + pA X 1 % 7) = some j := hhold
    have hm7 := Nat.mod_lt (pA X 1) (show 0 < 7 by decide)
    have hj0 := (h.2.2.2.2.2.1 _ (by omega) j hhold).1
    have hj : j < 6 := by have := h.1.1; omega
    have h0 := h
    obtain ⟨ha, hb, hc, h44, -⟩ := h
    obtain ⟨q9, -, po99, w4, mt⟩ := h44 j hj
    have ej := pu_join (X := uA X 4 (pA X 4 + 1)) (t := j) (w := pA X 4 % 4) q9
    by_cases hq : pF X j 2 < 9
    · rw [if_pos (show pF (uA X 4 (pA X 4 + 1)) j 2 < 9 from hq)] at ej
      refine ⟨uF (uF (uA X 4 (pA X 4 + 1)) j (8 + pF X j 2) (pA X 4 % 4)) j 2 (pF X j 2 + 1), fun F => ?_, ?_⟩
      · rw [ft_op_s, ej, if_neg (show ¬ (1 : Int32) = 0 by decide)]; rfl
      have f2 : pF (uF (uF (uA X 4 (pA X 4 + 1)) j (8 + pF X j 2) (pA X 4 % 4)) j 2 (pF X j 2 + 1)) j 2 = pF X j 2 + 1 := uF_s
      have fk : ∀ k, k ≠ 2 → k ≠ 8 + pF X j 2 → pF (uF (uF (uA X 4 (pA X 4 + 1)) j (8 + pF X j 2) (pA X 4 % 4)) j 2 (pF X j 2 + 1)) j k = pF X j k := fun k h1 h2 => by rw [uF_k h1, uF_k h2]; rfl
      have fw : pF (uF (uF (uA X 4 (pA X 4 + 1)) j (8 + pF X j 2) (pA X 4 % 4)) j 2 (pF X j 2 + 1)) j (8 + pF X j 2) = pA X 4 % 4 := by rw [uF_k (by omega), uF_s]
      have ft : ∀ t, t ≠ j → ∀ k, pF (uF (uF (uA X 4 (pA X 4 + 1)) j (8 + pF X j 2) (pA X 4 % 4)) j 2 (pF X j 2 + 1)) t k = pF X t k := fun t ht k => by rw [uF_t ht, uF_t ht]; rfl
      have hA : ∀ i, i ≠ 4 → pA (uF (uF (uA X 4 (pA X 4 + 1)) j (8 + pF X j 2) (pA X 4 % 4)) j 2 (pF X j 2 + 1)) i = pA X i := fun i hi => va_up_ne _ _ hi
      have hA4 : pA (uF (uF (uA X 4 (pA X 4 + 1)) j (8 + pF X j 2) (pA X 4 % 4)) j 2 (pF X j 2 + 1)) 4 = pA X 4 + 1 := by
        show va_up (pA X) 4 (pA X 4 + 1) 4 = _
        exact va_up_self _ _ _
      have hP : pP (uF (uF (uA X 4 (pA X 4 + 1)) j (8 + pF X j 2) (pA X 4 % 4)) j 2 (pF X j 2 + 1)) = pP X := rfl
      have hO : pO (uF (uF (uA X 4 (pA X 4 + 1)) j (8 + pF X j 2) (pA X 4 % 4)) j 2 (pF X j 2 + 1)) = pO X := rfl
      have hH : pH (uF (uF (uA X 4 (pA X 4 + 1)) j (8 + pF X j 2) (pA X 4 % 4)) j 2 (pF X j 2 + 1)) = pH X := rfl
      generalize uF (uF (uA X 4 (pA X 4 + 1)) j (8 + pF X j 2) (pA X 4 % 4)) j 2 (pF X j 2 + 1) = Y at f2 fk fw ft hA hA4 hP hO hH ⊢
      obtain ⟨b1, b2, b3⟩ := hb
      have e2 : s6 (fun t => pF Y t 2) + pF X j 2 = s6 (fun t => pF X t 2) + (pF X j 2 + 1) := s6_up hj f2 (fun i _ hi => ft i hi 2)
      have e0 : s6 (fun t => pF Y t 0) = s6 (fun t => pF X t 0) := s6_eq (fun i _ => by
        by_cases e : i = j
        · subst e; exact fk 0 (by omega) (by omega)
        · exact ft i e 0)
      refine ⟨pu_I.truck h0 hj ⟨hA 0 (by omega), hA 1 (by omega), hA 3 (by omega)⟩ hP hH ft (fk 3 (by omega) (by omega)) ⟨by rw [hA4, hA 5 (by omega), hA 6 (by omega), hA 7 (by omega)]; omega, by rw [hA 5 (by omega), hO]; exact b2, by rw [hA 5 (by omega), e0]; exact b3⟩ ⟨by rw [f2]; omega, fun d hd => by rw [fk _ (by omega) (by omega)]; exact po99 d hd, fun i hi => ?_, fun h1 => ?_⟩ ⟨p, hp, hhold⟩, pu_R.truck hj ⟨hA 0 (by omega), hA 3 (by omega)⟩ hP hH ft (fk 3 (by omega) (by omega)) (fun d hd => ⟨by rw [hO, fk _ (by omega) (by omega)], by rw [hO]; exact Nat.le_refl _⟩) (by rw [hO, fk 0 (by omega) (by omega)]), hA 1 (by omega), hA 2 (by omega), hA4⟩
      · rw [f2] at hi
        by_cases e : i = pF X j 2
        · subst e; rw [fw]; exact Nat.mod_lt _ (by decide)
        · rw [fk _ (by omega) (by omega)]; exact w4 i (by omega)
      · rw [fk 1 (by omega) (by omega)] at h1 ⊢
        obtain ⟨g1, g2, g3⟩ := mt h1
        have hw8 := w4 0 g1
        have hw8 : pF X j 8 < 4 := hw8
        rw [f2, fk 8 (by omega) (by omega), fk _ (by omega) (by omega)]
        exact ⟨by omega, g2, g3⟩
    · rw [if_neg (show ¬ pF (uA X 4 (pA X 4 + 1)) j 2 < 9 from hq)] at ej
      refine ⟨_, fun F => ?_, lost⟩
      rw [ft_op_s, ej, if_pos rfl, e7]
theorem pu_arrive_L {r0 : Nat → Int32} : ∀ (n i m : Nat) (X : pu_S), pu_I X → pA X 1 < 2 ^ 31 → pA X 4 + n < 2 ^ 31 → i + n = pA X 3 → n < m → ∃ Y, s_X4_letCustomersArrive_L2 r0 (fun y1_2 r_2 => r_2) m (nI i) (pu_r X) = pu_r Y ∧ pu_I Y ∧ pu_R X Y ∧ pA Y 1 = pA X 1 ∧ pA Y 2 = pA X 2 ∧ pA Y 4 = pA X 4 + n := by
  intro n
  induction n with
  | zero =>
    intro i m X h h1 h4 hi hm
    obtain ⟨m, rfl⟩ : ∃ q, m = q + 1 := ⟨m - 1, by omega⟩
    have h3 := h.1.2
    rw [s_X4_letCustomersArrive_L2, pu_rA (by omega), if_pos (nI_le (by omega) (by omega))]
    exact ⟨X, rfl, h, pu_R.rf, rfl, rfl, rfl⟩
  | succ n ih =>
    intro i m X h h1 h4 hi hm
    obtain ⟨m, rfl⟩ : ∃ q, m = q + 1 := ⟨m - 1, by omega⟩
    have h3 := h.1.2
    obtain ⟨Y, hF, hI, hR, g1, g2, g4⟩ := pu_customer h h1 (by omega)
    rw [s_X4_letCustomersArrive_L2, pu_rA (j := 3) (by omega), if_neg ((nI_geI (by omega) (by omega)).mpr (by omega)), nI_1]
    rw [hF (fun q => s_X4_letCustomersArrive_L2 r0 (fun y1_2 r_2 => r_2) m (nI (i + 1)) q)]
    obtain ⟨Z, k1, k2, k3, k4, k5, k6⟩ := ih (i + 1) m Y hI (by rw [g1]; exact h1) (by omega) (by rw [hR.1.2.1]; omega) (by omega)
    exact ⟨Z, k1, k2, hR.tr k3, k4.trans g1, k5.trans g2, by omega⟩
theorem pu_arrive {X : pu_S} (h : pu_I X) (h1 : pA X 1 < 2 ^ 31) (h4 : pA X 4 + 3 < 2 ^ 31) : ∃ Y, s_X4_letCustomersArrive (pu_r X) = pu_r Y ∧ pu_I Y ∧ pu_R X Y ∧ pA Y 1 = pA X 1 ∧ pA Y 2 = pA X 2 ∧ pA Y 4 = pA X 4 + pA X 3 := by
  have h3 := h.1.2
  have hk := pu_arrive_L (r0 := pu_r X) (pA X 3) 0 (tn (pu_r X 3) + 1) X h h1 (by omega) (by omega) (by rw [pu_rA (by omega), ft_tnI (by omega)]; omega)
  rw [nI_0] at hk
  exact hk
/-! the trucks work -/
theorem pu_works_L {d : Int32} : ∀ (n i m : Nat) (X : pu_S) (r0 : Nat → Int32), pu_I X → pA X 1 < 2 ^ 31 → s_X4_today r0 = nI (pA X 1 % 7) → i + n = 5 → n < m → ∃ Y, s_X4_letTrucksWork_L7 r0 (fun y2_7 r_7 => r_7) m (nI i) (pu_r X) = pu_r Y ∧ pu_I Y ∧ pu_R X Y ∧ pA Y 1 = pA X 1 ∧ pA Y 2 = pA X 2 ∧ pA Y 4 = pA X 4 := by
  intro n
  induction n with
  | zero =>
    intro i m X r0 h h1 ht hi hm
    obtain ⟨m, rfl⟩ : ∃ q, m = q + 1 := ⟨m - 1, by omega⟩
    obtain rfl : i = 5 := by omega
    rw [s_X4_letTrucksWork_L7, if_pos (by decide)]
    exact ⟨X, rfl, h, pu_R.rf, rfl, rfl, rfl⟩
  | succ n ih =>
    intro i m X r0 h h1 ht hi hm
    obtain ⟨m, rfl⟩ : ∃ q, m = q + 1 := ⟨m - 1, by omega⟩
    have hm7 := Nat.mod_lt (pA X 1) (show 0 < 7 by decide)
    rw [s_X4_letTrucksWork_L7, if_neg (show ¬ (5 : Int32) ≤ nI i from (nI_geI (a := 5) (by decide) (by omega)).mpr (by omega)), ht, pu_holderOf (by omega) hm7, nI_1]
    cases hh : pH X (7 * i + pA X 1 % 7) with
    | none =>
      rw [if_pos (show s_X4_isTruck (pu_r X) (ft_he none) = 0 from pu_isTruckN)]
      exact ih (i + 1) m X r0 h h1 ht (by omega) (by omega)
    | some t =>
      have hlt := (h.2.2.2.2.2.1 _ (by omega) t hh).1
      have h6 := h.1.1
      obtain ⟨Y, k1, k2, k3, k4, k5, k6⟩ := pu_work h (show t < 6 by omega) ⟨i, by omega, hh⟩
      rw [if_neg (show ¬ s_X4_isTruck (pu_r X) (ft_he (some t)) = 0 from by rw [show ft_he (some t) = nI t from rfl, pu_isTruck1 h.1.1 hlt]; decide), show tn (ft_he (some t)) = t from ft_tnI (by omega), k1]
      obtain ⟨Z, m1, m2, m3, m4, m5, m6⟩ := ih (i + 1) m Y r0 k2 (by rw [k4]; exact h1) (by rw [k4]; exact ht) (by omega) (by omega)
      exact ⟨Z, m1, m2, k3.tr m3, m4.trans k4, m5.trans k5, m6.trans k6⟩
theorem pu_works {X : pu_S} (h : pu_I X) (h1 : pA X 1 < 2 ^ 31) : ∃ Y, s_X4_letTrucksWork (pu_r X) = pu_r Y ∧ pu_I Y ∧ pu_R X Y ∧ pA Y 1 = pA X 1 ∧ pA Y 2 = pA X 2 ∧ pA Y 4 = pA X 4 := by
  have hk := pu_works_L (d := 0) 5 0 (tn 5 + 1) X (pu_r X) h h1 (pu_today h1) rfl (by decide)
  rw [nI_0] at hk
  exact hk
