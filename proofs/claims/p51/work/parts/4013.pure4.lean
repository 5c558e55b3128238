/-! a truck works for a minute -/
theorem pu_work {X : pu_S} {j : Nat} (h : pu_I X) (hj : j < 6) (hold : ∃ p, p < 5 ∧ pH X (7 * p + pA X 1 % 7) = some j) : ∃ Y, s_X4_letWork (pu_r X) j = pu_r Y ∧ pu_I Y ∧ pu_R X Y ∧ pA Y 1 = pA X 1 ∧ pA Y 2 = pA X 2 ∧ pA Y 4 = pA X 4 := by
  have h0 := h
  obtain ⟨ha, hb, hc, h4, -⟩ := h
  obtain ⟨q9, -, po99, w4, mt⟩ := h4 j hj
  have hw := pu_wishAt (X := X) (t := j) (j := 0) q9 (by decide)
  rw [nI_0] at hw
  rw [letWork_eq]
  by_cases hq : 0 < pF X j 2
  · rw [if_pos hq] at hw
    have hw4 : pF X j 8 < 4 := w4 0 hq
    obtain ⟨w, hwv⟩ : ∃ w, w = pF X j 8 := ⟨_, rfl⟩
    rw [← hwv] at hw4
    have hw : s_X6_wishAt (pu_r X) (51 + 17 * j) 0 = nI w := hw.trans (congrArg nI hwv.symm)
    have et : tn (nI w) = w := ft_tnI (by omega)
    rw [hw, pu_isDish1 hw4, if_neg (by decide)]
    -- what a serving comes to, out of the row with no minutes to go
    have serve : ∀ (hp1 : 1 ≤ pF X j (4 + w)), ∃ Y, ft_sve (s_X6_dropFirst (pu_r (uF X j 1 0)) (51 + 17 * j)) (51 + 17 * j) (nI w) = pu_r Y ∧ pu_I Y ∧ pu_R X Y ∧ pA Y 1 = pA X 1 ∧ pA Y 2 = pA X 2 ∧ pA Y 4 = pA X 4 := by
      intro hp1
      have hq2 : 0 < pF (uF X j 1 0) j 2 := by rw [uF_k (by omega)]; exact hq
      have eD : pF (uD (uF X j 1 0) j) j (4 + w) = pF X j (4 + w) := by rw [uD_k (by omega) (by omega), uF_k (by omega)]
      have e0 : pF (uD (uF X j 1 0) j) j 0 = pF X j 0 := by rw [uD_k (by omega) (by omega), uF_k (by omega)]
      rw [pu_drop hq2, pu_sve hw4 (by rw [eD]; exact hp1)]
      refine ⟨_, rfl, ?_⟩
      have f0 : pF (uS (uD (uF X j 1 0) j) j w) j 0 = pF X j 0 + pP X w := by
        show pF (uF (uF (uD (uF X j 1 0) j) j (4 + w) _) j 0 _) j 0 = _
        rw [uF_s, e0]; rfl
      have f1 : pF (uS (uD (uF X j 1 0) j) j w) j 1 = 0 := by
        show pF (uF (uF (uD (uF X j 1 0) j) j (4 + w) _) j 0 _) j 1 = _
        rw [uF_k (by omega), uF_k (by omega), uD_k (by omega) (by omega), uF_s]
      have f2 : pF (uS (uD (uF X j 1 0) j) j w) j 2 = pF X j 2 - 1 := by
        show pF (uF (uF (uD (uF X j 1 0) j) j (4 + w) _) j 0 _) j 2 = _
        rw [uF_k (by omega), uF_k (by omega), uD_2, uF_k (by omega)]
      have f3 : pF (uS (uD (uF X j 1 0) j) j w) j 3 = pF X j 3 := by
        show pF (uF (uF (uD (uF X j 1 0) j) j (4 + w) _) j 0 _) j 3 = _
        rw [uF_k (by omega), uF_k (by omega), uD_k (by omega) (by omega), uF_k (by omega)]
      have fp : ∀ d, d < 4 → pF (uS (uD (uF X j 1 0) j) j w) j (4 + d) = if d = w then pF X j (4 + w) - 1 else pF X j (4 + d) := by
        intro d hd
        show pF (uF (uF (uD (uF X j 1 0) j) j (4 + w) _) j 0 _) j (4 + d) = _
        rw [uF_k (by omega)]
        by_cases e : d = w
        · subst e; rw [uF_s, if_pos rfl, eD]
        · rw [uF_k (by omega), if_neg e, uD_k (by omega) (by omega), uF_k (by omega)]
      have fw : ∀ i, i < 8 → pF (uS (uD (uF X j 1 0) j) j w) j (8 + i) = pF X j (8 + (i + 1)) := by
        intro i hi
        show pF (uF (uF (uD (uF X j 1 0) j) j (4 + w) _) j 0 _) j (8 + i) = _
        rw [uF_k (by omega), uF_k (by omega), uD_w hi, uF_k (by omega)]
      have ft : ∀ t, t ≠ j → ∀ k, pF (uS (uD (uF X j 1 0) j) j w) t k = pF X t k := by
        intro t ht k
        show pF (uF (uF (uD (uF X j 1 0) j) j (4 + w) _) j 0 _) t k = _
        rw [uF_t ht, uF_t ht, uD_t ht, uF_t ht]
      have fo : ∀ d, pO (uS (uD (uF X j 1 0) j) j w) d = if d = w then pO X w + 1 else pO X d := by
        intro d
        show va_up (pO X) w (pO X w + 1) d = _
        by_cases e : d = w
        · subst e; rw [va_up_self, if_pos rfl]
        · rw [va_up_ne _ _ e, if_neg e]
      have hA : ∀ i, i ≠ 5 → pA (uS (uD (uF X j 1 0) j) j w) i = pA X i := fun i hi => va_up_ne _ _ hi
      have hA5 : pA (uS (uD (uF X j 1 0) j) j w) 5 = pA X 5 + 1 := by
        show va_up (pA X) 5 (pA X 5 + 1) 5 = _
        exact va_up_self _ _ _
      have hP : pP (uS (uD (uF X j 1 0) j) j w) = pP X := rfl
      have hH : pH (uS (uD (uF X j 1 0) j) j w) = pH X := rfl
      generalize uS (uD (uF X j 1 0) j) j w = Y at f0 f1 f2 f3 fp fw ft fo hA hA5 hP hH ⊢
      obtain ⟨b1, b2, b3⟩ := hb
      have e2 : s6 (fun t => pF Y t 2) + pF X j 2 = s6 (fun t => pF X t 2) + (pF X j 2 - 1) := s6_up hj f2 (fun i _ hi => ft i hi 2)
      have e0 : s6 (fun t => pF Y t 0) + pF X j 0 = s6 (fun t => pF X t 0) + (pF X j 0 + pP X w) := s6_up hj f0 (fun i _ hi => ft i hi 0)
      have eo : s4 (pO Y) + pO X w = s4 (pO X) + (pO X w + 1) := s4_up hw4 (by rw [fo, if_pos rfl]) (fun i _ hi => by rw [fo, if_neg hi])
      have ec : s4 (fun d => pO Y d * pP X d) + pO X w * pP X w = s4 (fun d => pO X d * pP X d) + (pO X w + 1) * pP X w := s4_up (g := fun d => pO X d * pP X d) (g' := fun d => pO Y d * pP X d) hw4 (by show pO Y w * pP X w = _; rw [fo, if_pos rfl]) (fun i _ hi => by show pO Y i * pP X i = pO X i * pP X i; rw [fo, if_neg hi])
      have em : (pO X w + 1) * pP X w = pO X w * pP X w + pP X w := Nat.succ_mul _ _
      have hpr := hc w hw4
      refine ⟨pu_I.truck h0 hj ⟨hA 0 (by omega), hA 1 (by omega), hA 3 (by omega)⟩ hP hH ft f3 ⟨by rw [hA 4 (by omega), hA5, hA 6 (by omega), hA 7 (by omega)]; omega, by rw [hA5]; omega, by rw [hA5]; omega⟩ ⟨by rw [f2]; omega, fun d hd => ?_, fun i hi => ?_, fun hm => by rw [f1] at hm; omega⟩ hold, pu_R.truck hj ⟨hA 0 (by omega), hA 3 (by omega)⟩ hP hH ft f3 (fun d hd => ?_) (by rw [f0]; omega), hA 1 (by omega), hA 2 (by omega), hA 4 (by omega)⟩
      · rw [fp d hd]
        by_cases e : d = w
        · rw [if_pos e]; have := po99 w hw4; omega
        · rw [if_neg e]; exact po99 d hd
      · rw [f2] at hi
        rw [fw i (by omega)]
        exact w4 (i + 1) (by omega)
      · rw [fo, fp d hd]
        by_cases e : d = w
        · rw [if_pos e, if_pos e, e]; omega
        · rw [if_neg e, if_neg e]; exact ⟨rfl, Nat.le_refl _⟩
    -- a minute of a serving that goes on
    have prog : ∀ m, m ≤ w → (0 < m → 1 ≤ pF X j (4 + w)) → ∃ Y, pu_r (uF X j 1 m) = pu_r Y ∧ pu_I Y ∧ pu_R X Y ∧ pA Y 1 = pA X 1 ∧ pA Y 2 = pA X 2 ∧ pA Y 4 = pA X 4 := by
      intro m hm hm2
      refine ⟨uF X j 1 m, rfl, pu_I.truck h0 hj ⟨rfl, rfl, rfl⟩ rfl rfl (fun t ht k => uF_t ht) (uF_k (by omega)) ⟨?_, hb.2.1, ?_⟩ ⟨by rw [uF_k (by omega)]; exact q9, fun d hd => by rw [uF_k (by omega)]; exact po99 d hd, fun i hi => ?_, fun h1 => ?_⟩ hold, pu_R.truck hj ⟨rfl, rfl⟩ rfl rfl (fun t ht k => uF_t ht) (uF_k (by omega)) (fun d hd => ⟨by rw [uF_k (by omega)]; rfl, Nat.le_refl _⟩) (by rw [uF_k (by omega)]; rfl), rfl, rfl, rfl⟩
      · rw [s6_eq (g := fun t => pF X t 2) (g' := fun t => pF (uF X j 1 m) t 2) (fun i _ => uF_k (by omega))]; exact hb.1
      · rw [s6_eq (g := fun t => pF X t 0) (g' := fun t => pF (uF X j 1 m) t 0) (fun i _ => uF_k (by omega))]; exact hb.2.2
      · rw [uF_k (by omega)] at hi ⊢; exact w4 i hi
      · rw [uF_s] at h1 ⊢
        rw [uF_k (by omega), uF_k (by omega), ← hwv, uF_k (by omega)]
        exact ⟨hq, hm, hm2 h1⟩
    have em : (pu_r X) (51 + 17 * j + 1) = nI (pF X j 1) := pu_rF (by omega)
    have ea : ft_ar (pu_r X) (51 + 17 * j + 4) 4 (tn (nI w)) = nI (pF X j (4 + w)) := by rw [et, ft_ar_get hw4, Nat.add_assoc (51 + 17 * j) 4 w, pu_rF (by omega)]
    have hpo := po99 w hw4
    rw [em, ea]
    by_cases hm : pF X j 1 = 0
    · rw [hm, if_pos nI_0]
      by_cases hpz : pF X j (4 + w) = 0
      · rw [hpz, if_pos nI_0, pu_drop hq, pu_rA (by omega), nI_1, pu_uA (by omega)]
        refine ⟨_, rfl, ?_⟩
        have ft : ∀ t, t ≠ j → ∀ k, pF (uA (uD X j) 6 (pA (uD X j) 6 + 1)) t k = pF X t k := fun t ht k => uD_t ht
        have fk : ∀ k, ¬ (8 ≤ k ∧ k < 16) → k ≠ 2 → pF (uA (uD X j) 6 (pA (uD X j) 6 + 1)) j k = pF X j k := fun k h1 h2 => uD_k h1 h2
        have f2 : pF (uA (uD X j) 6 (pA (uD X j) 6 + 1)) j 2 = pF X j 2 - 1 := uD_2
        have fw : ∀ i, i < 8 → pF (uA (uD X j) 6 (pA (uD X j) 6 + 1)) j (8 + i) = pF X j (8 + (i + 1)) := fun i hi => uD_w hi
        have hA : ∀ i, i ≠ 6 → pA (uA (uD X j) 6 (pA (uD X j) 6 + 1)) i = pA X i := fun i hi => va_up_ne _ _ hi
        have hA6 : pA (uA (uD X j) 6 (pA (uD X j) 6 + 1)) 6 = pA X 6 + 1 := by
          show va_up (pA X) 6 (pA X 6 + 1) 6 = _
          exact va_up_self _ _ _
        have hP : pP (uA (uD X j) 6 (pA (uD X j) 6 + 1)) = pP X := rfl
        have hO : pO (uA (uD X j) 6 (pA (uD X j) 6 + 1)) = pO X := rfl
        have hH : pH (uA (uD X j) 6 (pA (uD X j) 6 + 1)) = pH X := rfl
        generalize uA (uD X j) 6 (pA (uD X j) 6 + 1) = Y at ft fk f2 fw hA hA6 hP hO hH ⊢
        obtain ⟨b1, b2, b3⟩ := hb
        have e2 : s6 (fun t => pF Y t 2) + pF X j 2 = s6 (fun t => pF X t 2) + (pF X j 2 - 1) := s6_up hj f2 (fun i _ hi => ft i hi 2)
        have e0 : s6 (fun t => pF Y t 0) = s6 (fun t => pF X t 0) := s6_eq (fun i _ => by
          by_cases e : i = j
          · subst e; exact fk 0 (by omega) (by omega)
          · exact ft i e 0)
        refine ⟨pu_I.truck h0 hj ⟨hA 0 (by omega), hA 1 (by omega), hA 3 (by omega)⟩ hP hH ft (fk 3 (by omega) (by omega)) ⟨by rw [hA 4 (by omega), hA 5 (by omega), hA6, hA 7 (by omega)]; omega, by rw [hA 5 (by omega), hO]; exact b2, by rw [hA 5 (by omega), e0]; exact b3⟩ ⟨by rw [f2]; omega, fun d hd => by rw [fk _ (by omega) (by omega)]; exact po99 d hd, fun i hi => ?_, fun h1 => ?_⟩ hold, pu_R.truck hj ⟨hA 0 (by omega), hA 3 (by omega)⟩ hP hH ft (fk 3 (by omega) (by omega)) (fun d hd => ⟨by rw [hO, fk _ (by omega) (by omega)], by rw [hO]; exact Nat.le_refl _⟩) (by rw [hO, fk 0 (by omega) (by omega)]), hA 1 (by omega), hA 2 (by omega), hA 4 (by omega)⟩
        · rw [f2] at hi
          rw [fw i (by omega)]
          exact w4 (i + 1) (by omega)
        · rw [fk 1 (by omega) (by omega), hm] at h1
          omega
      · rw [if_neg (nI_ne0 (by omega) (by omega))]
        have eM : va_up (va_up (pu_r X) (51 + 17 * j + 1) (s_X7_minutesFor (nI w))) (51 + 17 * j + 1) (((va_up (pu_r X) (51 + 17 * j + 1) (s_X7_minutesFor (nI w))) (51 + 17 * j + 1)) - 1) = pu_r (uF X j 1 w) := by
          have e1 : s_X7_minutesFor (nI w) = nI (w + 1) := nI_1 w
          rw [e1, pu_uF (by omega), pu_rF (by omega), uF_s, nI_pred, pu_uF (by omega), uF_uF]
        rw [eM, pu_rF (by omega), uF_s]
        by_cases hw0 : w = 0
        · rw [if_pos (by rw [hw0]; decide), show uF X j 1 w = uF X j 1 0 by rw [hw0]]
          exact serve (by omega)
        · rw [if_neg (nI_nle (by omega) (by omega))]
          exact prog w (Nat.le_refl _) (fun _ => by omega)
    · obtain ⟨-, hmw, hmp⟩ := mt (by omega)
      rw [← hwv] at hmw hmp
      rw [if_neg (nI_ne0 (by omega) (by omega))]
      obtain ⟨n, en⟩ : ∃ n, pF X j 1 = n + 1 := ⟨pF X j 1 - 1, by omega⟩
      have eM : va_up (pu_r X) (51 + 17 * j + 1) (nI (pF X j 1) - 1) = pu_r (uF X j 1 n) := by
        rw [en, nI_pred, pu_uF (by omega)]
      rw [eM, pu_rF (by omega), uF_s]
      by_cases hn : n = 0
      · rw [if_pos (by rw [hn]; decide), hn]
        exact serve hmp
      · rw [if_neg (nI_nle (by omega) (by omega))]
        exact prog n (by omega) (fun _ => hmp)
  · rw [if_neg hq] at hw
    rw [hw, if_pos (by decide)]
    exact ⟨X, rfl, h0, pu_R.rf, rfl, rfl, rfl⟩
