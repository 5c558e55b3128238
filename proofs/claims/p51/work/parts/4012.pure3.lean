/-! one truck changes -/
theorem pu_I.truck {X Y : pu_S} {j : Nat} (h : pu_I X) (hj : j < 6) (hA : pA Y 0 = pA X 0 ∧ pA Y 1 = pA X 1 ∧ pA Y 3 = pA X 3) (hP : pP Y = pP X) (hH : pH Y = pH X) (hF : ∀ t, t ≠ j → ∀ k, pF Y t k = pF X t k) (hp : pF Y j 3 = pF X j 3) (hb : pIb Y) (hd : pF Y j 2 ≤ 9 ∧ (∀ d, d < 4 → pF Y j (4 + d) ≤ 99) ∧ (∀ i, i < pF Y j 2 → pF Y j (8 + i) < 4) ∧ (0 < pF Y j 1 → 0 < pF Y j 2 ∧ pF Y j 1 ≤ pF Y j 8 ∧ 1 ≤ pF Y j (4 + pF Y j 8))) (hold : ∃ p, p < 5 ∧ pH X (7 * p + pA X 1 % 7) = some j) : pu_I Y := by
  obtain ⟨ha, -, hc, h4, he, hf, hg, hh⟩ := h
  obtain ⟨p0, hp0, hhold⟩ := hold
  have hlt := (hf (7 * p0 + pA X 1 % 7) (by have := Nat.mod_lt (pA X 1) (show 0 < 7 by decide); omega) j hhold).1
  refine ⟨?_, hb, ?_, ?_, ?_, ?_, ?_, ?_⟩
  · unfold pIa at *; rw [hA.1, hA.2.2]; exact ha
  · unfold pIc at *; rw [hP]; exact hc
  · intro t ht
    by_cases e : t = j
    · subst e
      exact ⟨hd.1, by rw [hp]; exact (h4 t ht).2.1, hd.2.1, hd.2.2.1, hd.2.2.2⟩
    · have hk := hF t e
      have := h4 t ht
      refine ⟨by rw [hk]; exact this.1, by rw [hk]; exact this.2.1, fun d hd => by rw [hk]; exact this.2.2.1 d hd, fun i hi => ?_, fun hi => ?_⟩
      · rw [hk] at hi ⊢; exact this.2.2.2.1 i hi
      · rw [hk] at hi
        rw [hk 2, hk 1, hk 8, hk]
        exact this.2.2.2.2 hi
  · intro t ht hge
    rw [hA.1] at hge
    have e : t ≠ j := by omega
    have := he t ht hge
    exact ⟨by rw [hF t e]; exact this.1, by rw [hF t e]; exact this.2.1, fun d hd => by rw [hF t e]; exact this.2.2 d hd⟩
  · intro i hi t ht
    rw [hH] at ht
    have := hf i hi t ht
    refine ⟨by rw [hA.1]; exact this.1, ?_⟩
    by_cases e : t = j
    · subst e; rw [hp]; exact this.2
    · rw [hF t e]; exact this.2
  · intro p q d t h1 h2 h3 h5 h6
    rw [hH] at h5 h6
    exact hg p q d t h1 h2 h3 h5 h6
  · intro t ht hno
    rw [hH, hA.2.1] at hno
    by_cases e : t = j
    · subst e; exact absurd hhold (hno p0 hp0)
    · rw [hF t e]; exact hh t ht hno
theorem pu_R.truck {X Y : pu_S} {j : Nat} (hj : j < 6) (hA : pA Y 0 = pA X 0 ∧ pA Y 3 = pA X 3) (hP : pP Y = pP X) (hH : pH Y = pH X) (hF : ∀ t, t ≠ j → ∀ k, pF Y t k = pF X t k) (hp : pF Y j 3 = pF X j 3) (hs : ∀ d, d < 4 → pO Y d + pF Y j (4 + d) = pO X d + pF X j (4 + d) ∧ pO X d ≤ pO Y d) (hc : pF Y j 0 + s4 (fun d => pO X d * pP X d) = pF X j 0 + s4 (fun d => pO Y d * pP X d)) : pu_R X Y := by
  refine ⟨⟨hA.1, hA.2, hP, hH, fun t => ?_⟩, fun d hd => ?_, ?_⟩
  · by_cases e : t = j
    · subst e; exact hp
    · exact hF t e 3
  · have := hs d hd
    have e := s6_up (g := fun t => pF X t (4 + d)) (g' := fun t => pF Y t (4 + d)) (t := j) (x := pF Y j (4 + d)) hj rfl (fun i _ hi => hF i hi _)
    have e2 : s6 (fun t => pF Y t (4 + d)) + pF X j (4 + d) = s6 (fun t => pF X t (4 + d)) + pF Y j (4 + d) := e
    omega
  · have e := s6_up (g := fun t => pF X t 0) (g' := fun t => pF Y t 0) (t := j) (x := pF Y j 0) hj rfl (fun i _ hi => hF i hi _)
    have e2 : s6 (fun t => pF Y t 0) + pF X j 0 = s6 (fun t => pF X t 0) + pF Y j 0 := e
    omega
/-! dropping the first of a queue -/
def uD (Z : pu_S) (j : Nat) : pu_S := (Z.1, Z.2.1, Z.2.2.1, Z.2.2.2.1, va_up Z.2.2.2.2 j (fun k => if 8 ≤ k ∧ k < 16 then Z.2.2.2.2 j (k + 1) else if k = 2 then Z.2.2.2.2 j 2 - 1 else Z.2.2.2.2 j k))
theorem uD_t {Z : pu_S} {j t k : Nat} (h : t ≠ j) : pF (uD Z j) t k = pF Z t k := by
  show va_up Z.2.2.2.2 j _ t k = _
  rw [va_up_ne _ _ h]
theorem uD_k {Z : pu_S} {j k : Nat} (h : ¬ (8 ≤ k ∧ k < 16)) (h2 : k ≠ 2) : pF (uD Z j) j k = pF Z j k := by
  show va_up Z.2.2.2.2 j _ j k = _
  rw [va_up_self, if_neg h, if_neg h2]
theorem uD_2 {Z : pu_S} {j : Nat} : pF (uD Z j) j 2 = pF Z j 2 - 1 := by
  show va_up Z.2.2.2.2 j _ j 2 = _
  rw [va_up_self, if_neg (by omega), if_pos rfl]
theorem uD_w {Z : pu_S} {j i : Nat} (h : i < 8) : pF (uD Z j) j (8 + i) = pF Z j (8 + (i + 1)) := by
  show va_up Z.2.2.2.2 j _ j (8 + i) = _
  rw [va_up_self, if_pos (by omega)]
  rfl
theorem pu_drop {Z : pu_S} {j : Nat} (hq : 0 < pF Z j 2) : s_X6_dropFirst (pu_r Z) (51 + 17 * j) = pu_r (uD Z j) := by
  rw [dropFirst_eq]
  funext y
  by_cases h2 : y = 51 + 17 * j + 2
  · subst h2
    rw [va_up_self, pu_rF (by omega), pu_rF (by omega), uD_2]
    obtain ⟨q, e⟩ : ∃ q, pF Z j 2 = q + 1 := ⟨pF Z j 2 - 1, by omega⟩
    rw [e]
    exact nI_pred q
  · rw [va_up_ne _ _ h2]
    unfold ft_sh
    by_cases h8 : 51 + 17 * j + 8 ≤ y ∧ y < 51 + 17 * j + 8 + 8
    · rw [if_pos h8]
      obtain ⟨k, rfl⟩ : ∃ k, y = 51 + 17 * j + (8 + k) := ⟨y - (51 + 17 * j + 8), by omega⟩
      rw [show 51 + 17 * j + (8 + k) + 1 = 51 + 17 * j + (8 + (k + 1)) by omega, pu_rF (by omega), pu_rF (by omega), uD_w (by omega)]
    · rw [if_neg h8]
      unfold pu_r
      by_cases h1 : y < 8
      · rw [if_pos h1, if_pos h1]; rfl
      · rw [if_neg h1, if_neg h1]
        by_cases h3 : y < 12
        · rw [if_pos h3, if_pos h3]; rfl
        · rw [if_neg h3, if_neg h3]
          by_cases h4 : y < 16
          · rw [if_pos h4, if_pos h4]; rfl
          · rw [if_neg h4, if_neg h4]
            by_cases h5 : y < 51
            · rw [if_pos h5, if_pos h5]; rfl
            · rw [if_neg h5, if_neg h5]
              by_cases ht : (y - 51) / 17 = j
              · rw [ht, uD_k (by omega) (by omega)]
              · rw [uD_t ht]
theorem uF_uF {X : pu_S} {t k x y : Nat} : uF (uF X t k x) t k y = uF X t k y := by
  unfold uF
  have e : va_up (va_up X.2.2.2.2 t (va_up (X.2.2.2.2 t) k x)) t (va_up (va_up X.2.2.2.2 t (va_up (X.2.2.2.2 t) k x) t) k y) = va_up X.2.2.2.2 t (va_up (X.2.2.2.2 t) k y) := by
    funext a
    by_cases ha : a = t
    · subst ha
      rw [va_up_self, va_up_self, va_up_self]
      funext b
      by_cases hb : b = k
      · subst hb; rw [va_up_self, va_up_self]
      · rw [va_up_ne _ _ hb, va_up_ne _ _ hb, va_up_ne _ _ hb]
    · rw [va_up_ne _ _ ha, va_up_ne _ _ ha, va_up_ne _ _ ha]
  show (X.1, X.2.1, X.2.2.1, X.2.2.2.1, _) = _
  rw [e]
/-! serving -/
def ft_sve (d : Nat → Int32) (B : Nat) (wt : Int32) : Nat → Int32 :=
  va_up (va_up (va_up (va_up d (B + 4 + tn wt) ((ft_ar d (B + 4) 4 (tn wt)) - 1)) (B + 0) (((va_up d (B + 4 + tn wt) ((ft_ar d (B + 4) 4 (tn wt)) - 1)) (B + 0)) + (ft_ar (va_up d (B + 4 + tn wt) ((ft_ar d (B + 4) 4 (tn wt)) - 1)) (8) 4 (tn wt)))) (12 + tn wt) ((ft_ar (va_up (va_up d (B + 4 + tn wt) ((ft_ar d (B + 4) 4 (tn wt)) - 1)) (B + 0) (((va_up d (B + 4 + tn wt) ((ft_ar d (B + 4) 4 (tn wt)) - 1)) (B + 0)) + (ft_ar (va_up d (B + 4 + tn wt) ((ft_ar d (B + 4) 4 (tn wt)) - 1)) (8) 4 (tn wt)))) (12) 4 (tn wt)) + 1)) 5 (((va_up (va_up (va_up d (B + 4 + tn wt) ((ft_ar d (B + 4) 4 (tn wt)) - 1)) (B + 0) (((va_up d (B + 4 + tn wt) ((ft_ar d (B + 4) 4 (tn wt)) - 1)) (B + 0)) + (ft_ar (va_up d (B + 4 + tn wt) ((ft_ar d (B + 4) 4 (tn wt)) - 1)) (8) 4 (tn wt)))) (12 + tn wt) ((ft_ar (va_up (va_up d (B + 4 + tn wt) ((ft_ar d (B + 4) 4 (tn wt)) - 1)) (B + 0) (((va_up d (B + 4 + tn wt) ((ft_ar d (B + 4) 4 (tn wt)) - 1)) (B + 0)) + (ft_ar (va_up d (B + 4 + tn wt) ((ft_ar d (B + 4) 4 (tn wt)) - 1)) (8) 4 (tn wt)))) (12) 4 (tn wt)) + 1)) 5) + 1)
theorem letWork_eq (r : Nat → Int32) (i : Nat) : s_X4_letWork r i = if (s_X7_isDish (s_X6_wishAt r (51 + 17 * i) 0)) = 0 then r else (if (r (51 + 17 * i + 1)) = 0 then (if (ft_ar r (51 + 17 * i + 4) 4 (tn (s_X6_wishAt r (51 + 17 * i) 0))) = 0 then (va_up (s_X6_dropFirst r (51 + 17 * i)) 6 (((s_X6_dropFirst r (51 + 17 * i)) 6) + 1)) else (if ((va_up (va_up r (51 + 17 * i + 1) (s_X7_minutesFor (s_X6_wishAt r (51 + 17 * i) 0))) (51 + 17 * i + 1) (((va_up r (51 + 17 * i + 1) (s_X7_minutesFor (s_X6_wishAt r (51 + 17 * i) 0))) (51 + 17 * i + 1)) - 1)) (51 + 17 * i + 1)) ≤ 0 then (ft_sve (s_X6_dropFirst (va_up (va_up r (51 + 17 * i + 1) (s_X7_minutesFor (s_X6_wishAt r (51 + 17 * i) 0))) (51 + 17 * i + 1) (((va_up r (51 + 17 * i + 1) (s_X7_minutesFor (s_X6_wishAt r (51 + 17 * i) 0))) (51 + 17 * i + 1)) - 1)) (51 + 17 * i)) (51 + 17 * i) (s_X6_wishAt r (51 + 17 * i) 0)) else (va_up (va_up r (51 + 17 * i + 1) (s_X7_minutesFor (s_X6_wishAt r (51 + 17 * i) 0))) (51 + 17 * i + 1) (((va_up r (51 + 17 * i + 1) (s_X7_minutesFor (s_X6_wishAt r (51 + 17 * i) 0))) (51 + 17 * i + 1)) - 1)))) else (if ((va_up r (51 + 17 * i + 1) ((r (51 + 17 * i + 1)) - 1)) (51 + 17 * i + 1)) ≤ 0 then (ft_sve (s_X6_dropFirst (va_up r (51 + 17 * i + 1) ((r (51 + 17 * i + 1)) - 1)) (51 + 17 * i)) (51 + 17 * i) (s_X6_wishAt r (51 + 17 * i) 0)) else (va_up r (51 + 17 * i + 1) ((r (51 + 17 * i + 1)) - 1)))) := rfl
def uS (D : pu_S) (j w : Nat) : pu_S := uA (uO (uF (uF D j (4 + w) (pF D j (4 + w) - 1)) j 0 (pF D j 0 + pP D w)) w (pO D w + 1)) 5 (pA D 5 + 1)
theorem pu_sve {D : pu_S} {j w : Nat} (hw : w < 4) (hp : 1 ≤ pF D j (4 + w)) : ft_sve (pu_r D) (51 + 17 * j) (nI w) = pu_r (uS D j w) := by
  have et : tn (nI w) = w := ft_tnI (by omega)
  have e1 : va_up (pu_r D) (51 + 17 * j + 4 + tn (nI w)) ((ft_ar (pu_r D) (51 + 17 * j + 4) 4 (tn (nI w))) - 1) = pu_r (uF D j (4 + w) (pF D j (4 + w) - 1)) := by
    rw [et, ft_ar_get hw, Nat.add_assoc (51 + 17 * j) 4 w, pu_rF (by omega)]
    obtain ⟨n, e⟩ : ∃ n, pF D j (4 + w) = n + 1 := ⟨pF D j (4 + w) - 1, by omega⟩
    rw [e, nI_pred, Nat.add_sub_cancel, pu_uF (by omega)]
  have e2 : va_up (pu_r (uF D j (4 + w) (pF D j (4 + w) - 1))) (51 + 17 * j + 0) ((pu_r (uF D j (4 + w) (pF D j (4 + w) - 1))) (51 + 17 * j + 0) + (ft_ar (pu_r (uF D j (4 + w) (pF D j (4 + w) - 1))) (8) 4 (tn (nI w)))) = pu_r (uF (uF D j (4 + w) (pF D j (4 + w) - 1)) j 0 (pF D j 0 + pP D w)) := by
    rw [et, ft_ar_get hw, pu_rF (by omega), pu_rP hw, nI_add, uF_k (by omega), pu_uF (by omega)]
    rfl
  have e3 : va_up (pu_r (uF (uF D j (4 + w) (pF D j (4 + w) - 1)) j 0 (pF D j 0 + pP D w))) (12 + tn (nI w)) ((ft_ar (pu_r (uF (uF D j (4 + w) (pF D j (4 + w) - 1)) j 0 (pF D j 0 + pP D w))) (12) 4 (tn (nI w))) + 1) = pu_r (uO (uF (uF D j (4 + w) (pF D j (4 + w) - 1)) j 0 (pF D j 0 + pP D w)) w (pO D w + 1)) := by
    rw [et, ft_ar_get hw, pu_rO hw, nI_1, pu_uO hw]
    rfl
  unfold ft_sve
  rw [e1, e2, e3, pu_rA (by omega), nI_1, pu_uA (by omega)]
  rfl
