/-! a day ends -/
def pE (i : Nat) (X Y : pu_S) : Prop := (∀ k, k ≠ 6 → pA Y k = pA X k) ∧ (pP Y = pP X ∧ pO Y = pO X ∧ pH Y = pH X) ∧ (∀ t k, k ≠ 1 → k ≠ 2 → pF Y t k = pF X t k) ∧ (∀ t, t < i → pF Y t 1 = 0 ∧ pF Y t 2 = 0) ∧ pA Y 6 + s6 (fun t => pF Y t 2) = pA X 6 + s6 (fun t => pF X t 2)
theorem pu_send {Y : pu_S} {t : Nat} : (s_X6_sendAllAway (pu_r Y) (51 + 17 * t)).1 = nI (pF Y t 2) ∧ (s_X6_sendAllAway (pu_r Y) (51 + 17 * t)).2 = pu_r (uF (uF Y t 2 0) t 1 0) := by
  refine ⟨pu_rF (by omega), ?_⟩
  show va_up (va_up (pu_r Y) (51 + 17 * t + 2) 0) (51 + 17 * t + 1) 0 = _
  rw [← nI_0, pu_uF (by omega), pu_uF (by omega)]
theorem pu_endDay_L {X : pu_S} {r0 : Nat → Int32} (K : Int32 → (Nat → Int32) → (Nat → Int32)) : ∀ (n i m : Nat) (Y : pu_S), pE i X Y → i + n = 6 → n < m → ∃ Z, s_X4_endDay_L2 r0 K m (nI i) (pu_r Y) = K (nI 6) (pu_r Z) ∧ pE 6 X Z := by
  intro n
  induction n with
  | zero =>
    intro i m Y h hi hm
    obtain ⟨m, rfl⟩ : ∃ q, m = q + 1 := ⟨m - 1, by omega⟩
    obtain rfl : i = 6 := by omega
    rw [s_X4_endDay_L2, if_pos (by decide)]
    exact ⟨Y, rfl, h⟩
  | succ n ih =>
    intro i m Y h hi hm
    obtain ⟨m, rfl⟩ : ∃ q, m = q + 1 := ⟨m - 1, by omega⟩
    have et : tn (nI i) = i := ft_tnI (by omega)
    have e : va_up ((s_X6_sendAllAway (pu_r Y) (51 + 17 * (tn (nI i)))).2) 6 (((pu_r Y) 6) + ((s_X6_sendAllAway (pu_r Y) (51 + 17 * (tn (nI i)))).1)) = pu_r (uA (uF (uF Y i 2 0) i 1 0) 6 (pA Y 6 + pF Y i 2)) := by
      rw [et, pu_send.1, pu_send.2, pu_rA (by omega), nI_add, pu_uA (by omega)]
    rw [s_X4_endDay_L2, if_neg (show ¬ (6 : Int32) ≤ nI i from (nI_geI (a := 6) (by decide) (by omega)).mpr (by omega)), e, nI_1]
    refine ih (i + 1) m _ ?_ (by omega) (by omega)
    obtain ⟨h1, h2, h3, h4, h5⟩ := h
    have ft : ∀ t k, (k ≠ 1 ∧ k ≠ 2) ∨ t ≠ i → pF (uA (uF (uF Y i 2 0) i 1 0) 6 (pA Y 6 + pF Y i 2)) t k = pF Y t k := by
      intro t k hk
      show pF (uF (uF Y i 2 0) i 1 0) t k = _
      rcases hk with hk | hk
      · rw [uF_k hk.1, uF_k hk.2]
      · rw [uF_t hk, uF_t hk]
    have f1 : pF (uA (uF (uF Y i 2 0) i 1 0) 6 (pA Y 6 + pF Y i 2)) i 1 = 0 := uF_s
    have f2 : pF (uA (uF (uF Y i 2 0) i 1 0) 6 (pA Y 6 + pF Y i 2)) i 2 = 0 := by
      show pF (uF (uF Y i 2 0) i 1 0) i 2 = 0
      rw [uF_k (by omega), uF_s]
    have hA6 : pA (uA (uF (uF Y i 2 0) i 1 0) 6 (pA Y 6 + pF Y i 2)) 6 = pA Y 6 + pF Y i 2 := uA_s
    refine ⟨fun k hk => (va_up_ne _ _ hk).trans (h1 k hk), h2, fun t k k1 k2 => (ft t k (Or.inl ⟨k1, k2⟩)).trans (h3 t k k1 k2), fun t ht => ?_, ?_⟩
    · by_cases e : t = i
      · subst e; exact ⟨f1, f2⟩
      · rw [ft t 1 (Or.inr e), ft t 2 (Or.inr e)]; exact h4 t (by omega)
    · have e2 : s6 (fun t => pF (uA (uF (uF Y i 2 0) i 1 0) 6 (pA Y 6 + pF Y i 2)) t 2) + pF Y i 2 = s6 (fun t => pF Y t 2) + 0 := s6_up (g := fun t => pF Y t 2) (g' := fun t => pF (uA (uF (uF Y i 2 0) i 1 0) 6 (pA Y 6 + pF Y i 2)) t 2) (by omega) f2 (fun j _ hj => ft j 2 (Or.inr hj))
      rw [hA6]
      omega
theorem pu_endDay {X : pu_S} (h : pu_I X) : ∃ Y, s_X4_endDay (pu_r X) = pu_r Y ∧ pu_I Y ∧ pu_R X Y ∧ pA Y 1 = pA X 1 + 1 ∧ pA Y 2 = 0 ∧ pA Y 4 = pA X 4 := by
  obtain ⟨Z, hZ, e1, ⟨eP, eO, eH⟩, e3, e4, e5⟩ := pu_endDay_L (X := X) (r0 := pu_r X) (fun y1_2 r_2 => va_up (va_up r_2 1 ((r_2 1) + 1)) 2 0) 6 0 (tn 6 + 1) X ⟨fun _ _ => rfl, ⟨rfl, rfl, rfl⟩, fun _ _ _ _ => rfl, fun t ht => absurd ht (Nat.not_lt_zero t), rfl⟩ rfl (by decide)
  rw [nI_0] at hZ
  have er : va_up (va_up (pu_r Z) 1 (((pu_r Z) 1) + 1)) 2 0 = pu_r (uA (uA Z 1 (pA Z 1 + 1)) 2 0) := by
    rw [pu_rA (by omega), nI_1, pu_uA (by omega), ← nI_0, pu_uA (by omega)]
  refine ⟨uA (uA Z 1 (pA Z 1 + 1)) 2 0, ?_, ?_⟩
  · unfold s_X4_endDay
    rw [hZ]
    exact er
  have hA : ∀ k, k ≠ 1 → k ≠ 2 → k ≠ 6 → pA (uA (uA Z 1 (pA Z 1 + 1)) 2 0) k = pA X k := fun k h1 h2 h6 => by
    show va_up (va_up Z.1 1 (pA Z 1 + 1)) 2 0 k = _
    rw [va_up_ne _ _ h2, va_up_ne _ _ h1]
    exact e1 k h6
  have hA1 : pA (uA (uA Z 1 (pA Z 1 + 1)) 2 0) 1 = pA X 1 + 1 := by
    show va_up (va_up Z.1 1 (pA Z 1 + 1)) 2 0 1 = _
    rw [va_up_ne _ _ (by omega), va_up_self, e1 1 (by omega)]
  have hA2 : pA (uA (uA Z 1 (pA Z 1 + 1)) 2 0) 2 = 0 := uA_s
  have hA6 : pA (uA (uA Z 1 (pA Z 1 + 1)) 2 0) 6 = pA Z 6 := by
    show va_up (va_up Z.1 1 (pA Z 1 + 1)) 2 0 6 = _
    rw [va_up_ne _ _ (by omega), va_up_ne _ _ (by omega)]
  have hF : ∀ t k, k ≠ 1 → k ≠ 2 → pF (uA (uA Z 1 (pA Z 1 + 1)) 2 0) t k = pF X t k := e3
  have hF12 : ∀ t, t < 6 → pF (uA (uA Z 1 (pA Z 1 + 1)) 2 0) t 1 = 0 ∧ pF (uA (uA Z 1 (pA Z 1 + 1)) 2 0) t 2 = 0 := e4
  have hP : pP (uA (uA Z 1 (pA Z 1 + 1)) 2 0) = pP X := eP
  have hO : pO (uA (uA Z 1 (pA Z 1 + 1)) 2 0) = pO X := eO
  have hH : pH (uA (uA Z 1 (pA Z 1 + 1)) 2 0) = pH X := eH
  have hs : pA Z 6 + s6 (fun t => pF Z t 2) = pA X 6 + s6 (fun t => pF X t 2) := e5
  have hs0 : s6 (fun t => pF Z t 2) = 0 := by
    show pF Z 0 2 + pF Z 1 2 + pF Z 2 2 + pF Z 3 2 + pF Z 4 2 + pF Z 5 2 = 0
    rw [(e4 0 (by omega)).2, (e4 1 (by omega)).2, (e4 2 (by omega)).2, (e4 3 (by omega)).2, (e4 4 (by omega)).2, (e4 5 (by omega)).2]
  have hq0 : s6 (fun t => pF (uA (uA Z 1 (pA Z 1 + 1)) 2 0) t 2) = 0 := hs0
  have hqe : s6 (fun t => pF (uA (uA Z 1 (pA Z 1 + 1)) 2 0) t 0) = s6 (fun t => pF X t 0) := s6_eq (fun i _ => hF i 0 (by omega) (by omega))
  generalize uA (uA Z 1 (pA Z 1 + 1)) 2 0 = Y at hA hA1 hA2 hA6 hF hF12 hP hO hH hq0 hqe ⊢
  obtain ⟨ha, ⟨b1, b2, b3⟩, hc, hd, he, hf, hg, -⟩ := h
  refine ⟨⟨⟨by rw [hA 0 (by omega) (by omega) (by omega)]; exact ha.1, by rw [hA 3 (by omega) (by omega) (by omega)]; exact ha.2⟩, ⟨by rw [hA 4 (by omega) (by omega) (by omega), hA 5 (by omega) (by omega) (by omega), hA6, hA 7 (by omega) (by omega) (by omega), hq0]; omega, by rw [hA 5 (by omega) (by omega) (by omega), hO]; exact b2, by rw [hA 5 (by omega) (by omega) (by omega), hqe]; exact b3⟩, fun d hd => by rw [hP]; exact hc d hd, fun t ht => ?_, fun t ht hge => ?_, fun i hi t ht => ?_, fun p q d t k1 k2 k3 k4 k5 => ?_, fun t ht _ => (hF12 t ht).2⟩, ⟨⟨hA 0 (by omega) (by omega) (by omega), hA 3 (by omega) (by omega) (by omega), hP, hH, fun t => hF t 3 (by omega) (by omega)⟩, fun d _ => ⟨?_, by rw [hO]; exact Nat.le_refl _⟩, by rw [hqe, hO]⟩, hA1, hA2, hA 4 (by omega) (by omega) (by omega)⟩
  · have := hd t ht
    rw [(hF12 t ht).1, (hF12 t ht).2, hF t 3 (by omega) (by omega)]
    exact ⟨by omega, this.2.1, fun d hd2 => by rw [hF t _ (by omega) (by omega)]; exact this.2.2.1 d hd2, fun j hj => absurd hj (Nat.not_lt_zero j), fun h0 => absurd h0 (Nat.lt_irrefl 0)⟩
  · rw [hA 0 (by omega) (by omega) (by omega)] at hge
    have := he t ht hge
    exact ⟨by rw [hF t 0 (by omega) (by omega)]; exact this.1, (hF12 t ht).2, fun d hd2 => by rw [hF t _ (by omega) (by omega)]; exact this.2.2 d hd2⟩
  · rw [hH] at ht
    rw [hA 0 (by omega) (by omega) (by omega), hF t 3 (by omega) (by omega)]
    exact hf i hi t ht
  · rw [hH] at k4 k5
    exact hg p q d t k1 k2 k3 k4 k5
  · rw [hO, s6_eq (g := fun t => pF X t (4 + d)) (g' := fun t => pF Y t (4 + d)) (fun i _ => hF i _ (by omega) (by omega))]
/-! minutes -/
theorem pu_minute {X : pu_S} (h : pu_I X) (ht : pu_T X) (hb : 60 * pA X 1 + pA X 2 < 100000000) : ∃ Y, (∀ (F : (Nat → Int32) → Int32 × (Nat → Int32)), (if ((va_up (s_X4_letTrucksWork (s_X4_letCustomersArrive (pu_r X))) 2 (((s_X4_letTrucksWork (s_X4_letCustomersArrive (pu_r X))) 2) + 1)) 2) < 60 then (F (va_up (s_X4_letTrucksWork (s_X4_letCustomersArrive (pu_r X))) 2 (((s_X4_letTrucksWork (s_X4_letCustomersArrive (pu_r X))) 2) + 1))) else (F (s_X4_endDay (va_up (s_X4_letTrucksWork (s_X4_letCustomersArrive (pu_r X))) 2 (((s_X4_letTrucksWork (s_X4_letCustomersArrive (pu_r X))) 2) + 1))))) = F (pu_r Y)) ∧ pu_I Y ∧ pu_T Y ∧ pu_R X Y ∧ 60 * pA Y 1 + pA Y 2 = 60 * pA X 1 + pA X 2 + 1 ∧ pA Y 4 = pA X 4 + pA X 3 := by
  obtain ⟨t1, t2⟩ := ht
  have h3 := h.1.2
  obtain ⟨U, u1, u2, u3, u4, u5, u6⟩ := pu_arrive h (by omega) (by omega)
  obtain ⟨V, v1, v2, v3, v4, v5, v6⟩ := pu_works u2 (by omega)
  have e2 : va_up (pu_r V) 2 (((pu_r V) 2) + 1) = pu_r (uA V 2 (pA V 2 + 1)) := by rw [pu_rA (by omega), nI_1, pu_uA (by omega)]
  have eq2 : pu_r (uA V 2 (pA V 2 + 1)) 2 = nI (pA V 2 + 1) := by rw [pu_rA (by omega)]; exact congrArg nI uA_s
  have hW : pu_I (uA V 2 (pA V 2 + 1)) := v2.scal rfl rfl v2.1.2 rfl v2.2.1
  have hR : pu_R X (uA V 2 (pA V 2 + 1)) := (u3.tr v3).tr ⟨⟨rfl, rfl, rfl, rfl, fun _ => rfl⟩, fun d _ => ⟨rfl, Nat.le_refl _⟩, rfl⟩
  rw [u1, v1, e2, eq2]
  have hv2 : pA V 2 = pA X 2 := v5.trans u5
  have hv1 : pA V 1 = pA X 1 := v4.trans u4
  have hv4 : pA V 4 = pA X 4 + pA X 3 := v6.trans u6
  by_cases hm : pA V 2 + 1 < 60
  · refine ⟨uA V 2 (pA V 2 + 1), fun F => ?_, hW, ⟨?_, ?_⟩, hR, ?_, ?_⟩
    · rw [if_pos (show nI (pA V 2 + 1) < (60 : Int32) from nI_lt (b := 60) hm (by decide))]
    · show pA V 2 + 1 < 60
      exact hm
    · show pA V 4 ≤ 3 * (60 * pA V 1 + (pA V 2 + 1))
      omega
    · show 60 * pA V 1 + (pA V 2 + 1) = _
      omega
    · exact hv4
  · obtain ⟨Y, y1, y2, y3, y4, y5, y6⟩ := pu_endDay hW
    have y4 : pA Y 1 = pA V 1 + 1 := y4
    have y6 : pA Y 4 = pA V 4 := y6
    refine ⟨Y, fun F => ?_, y2, ⟨by omega, by omega⟩, hR.tr y3, by omega, by omega⟩
    rw [if_neg (show ¬ nI (pA V 2 + 1) < (60 : Int32) from nI_nlt (b := 60) (by omega) (by omega)), y1]
theorem pu_pass_L {r0 : Nat → Int32} {M : Nat} (hM : M ≤ 1000) (K : Int32 → (Nat → Int32) → Int32 × (Nat → Int32)) : ∀ (n i m : Nat) (X : pu_S), pu_I X → pu_T X → 60 * pA X 1 + pA X 2 + n < 100000000 → i + n = M → n < m → ∃ Y, s_X4_passMinutes_L7 r0 (nI M) K m (nI i) (pu_r X) = K (nI M) (pu_r Y) ∧ pu_I Y ∧ pu_T Y ∧ pu_R X Y ∧ 60 * pA Y 1 + pA Y 2 = 60 * pA X 1 + pA X 2 + n ∧ pA Y 4 = pA X 4 + n * pA X 3 := by
  intro n
  induction n with
  | zero =>
    intro i m X h ht hb hi hm
    obtain ⟨m, rfl⟩ : ∃ q, m = q + 1 := ⟨m - 1, by omega⟩
    obtain rfl : i = M := by omega
    rw [s_X4_passMinutes_L7, if_pos (nI_le (Nat.le_refl _) (by omega))]
    exact ⟨X, rfl, h, ht, pu_R.rf, rfl, by omega⟩
  | succ n ih =>
    intro i m X h ht hb hi hm
    obtain ⟨m, rfl⟩ : ∃ q, m = q + 1 := ⟨m - 1, by omega⟩
    obtain ⟨Y, hF, hI, hT, hR, hc, h4⟩ := pu_minute h ht (by omega)
    rw [s_X4_passMinutes_L7, if_neg ((nI_geI (by omega) (by omega)).mpr (by omega)), nI_1]
    rw [hF (fun q => s_X4_passMinutes_L7 r0 (nI M) K m (nI (i + 1)) q)]
    obtain ⟨Z, k1, k2, k3, k4, k5, k6⟩ := ih (i + 1) m Y hI hT (by omega) (by omega) (by omega)
    refine ⟨Z, k1, k2, k3, hR.tr k4, by omega, ?_⟩
    rw [k6, h4, hR.1.2.1, Nat.succ_mul]
    omega
theorem pu_pass {X : pu_S} {M : Nat} (hM : M ≤ 1000) (h : pu_I X) (ht : pu_T X) (hb : 60 * pA X 1 + pA X 2 < 10000000) : ∃ Y, s_X4_passMinutes (pu_r X) (nI M) = (nI (pA Y 5) - nI (pA X 5), pu_r Y) ∧ pu_I Y ∧ pu_T Y ∧ pu_R X Y ∧ 60 * pA Y 1 + pA Y 2 = 60 * pA X 1 + pA X 2 + M ∧ pA Y 4 = pA X 4 + M * pA X 3 := by
  obtain ⟨Y, k1, k2⟩ := pu_pass_L (r0 := pu_r X) hM (fun y3_7 r_7 => ((r_7 5) - (pu_r X 5), r_7)) M 0 (tn (nI M) + 1) X h ht (by omega) (by omega) (by rw [ft_tnI (by omega)]; omega)
  rw [nI_0] at k1
  refine ⟨Y, ?_, k2⟩
  unfold s_X4_passMinutes
  rw [k1]
  show ((pu_r Y 5) - (pu_r X 5), pu_r Y) = _
  rw [pu_rA (by omega), pu_rA (by omega)]
