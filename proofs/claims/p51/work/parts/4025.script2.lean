/-! what the law needs of runScript -/
theorem w2_runScript (σ : ft_Sg) : (w_runScript σ).2 = (l_runScript σ).2 := by
  unfold w_runScript
  split <;> rfl
theorem w1_runScript {σ : ft_Sg} {E : String} {u : ft_Sg} (e : l_runScript σ = (.error E, u)) : (w_runScript σ).1 = -100000000 := by
  unfold w_runScript
  rw [e]
theorem w1_runScript' {σ : ft_Sg} {z : Int32} {u : ft_Sg} (e : l_runScript σ = (.ok z, u)) : (w_runScript σ).1 = z := by
  unfold w_runScript
  rw [e]
theorem j_ex_runScript {c : Nat} {σ : ft_Sg} (h : ft_Jd c σ) (hc : c ≤ 1000) : ∀ E, (l_runScript σ).1 = .error E → E ∈ ["java/lang/IllegalArgumentException", "java/lang/IllegalStateException"] := by
  intro E hE
  obtain ⟨o1, g1, -, -, -, -, -, -, ⟨-, e⟩ | ⟨-, r, i, -, -, e⟩ | ⟨-, r, z, p', k, o', -, -, -, -, -, -, e⟩⟩ := rs_ex h hc
  · rw [e] at hE; rw [← Except.error.inj hE]; decide
  · rw [e] at hE; rw [← Except.error.inj hE]; decide
  · rw [e] at hE; cases hE
theorem j_k_runScript {c : Nat} {σ : ft_Sg} (h : ft_Jd c σ) (hc : c + 1 ≤ 1000) : ft_Jd (c + 1) (w_runScript σ).2 := by
  have hx := rs_ex h (by omega)
  obtain ⟨hpm, hrow, ⟨n, hn, ho⟩, h9, h1, hg⟩ := Jd_mono h (show c ≤ c + 1 by omega)
  rw [w2_runScript]
  obtain ⟨o1, g1, a1, a2, a3, a4, a5, -, hh⟩ := hx
  have e3 : o1 3 = nI n := (a1 3 (by omega) (by omega) (by omega) (by omega)).trans ho
  have e7 : o1 7 = σ.2.2.1 7 := a1 7 (by omega) (by omega) (by omega) (by omega)
  have b1 : ft_ok261 o1 g1 70 := by
    unfold ft_ok261 at *
    rw [e7, a3]
    exact h1
  have b9 : ft_ok259 o1 g1 60 := a4.mono (by omega)
  rcases hh with ⟨-, e⟩ | ⟨-, r, i, -, hr, e⟩ | ⟨-, r, z, p', k, o', hr, hk, hp', ho3, ho', -, e⟩
  · rw [e]
    exact ⟨hpm, hrow, ⟨n, hn, (va_up_ne o1 (o1 5) (show 3 ≠ 1 by omega)).trans e3⟩, ok259_o b9 (va_up_ne o1 (o1 5) (show 6 ≠ 1 by omega)), ok261_o b1 (va_up_ne o1 (o1 5) (show 7 ≠ 1 by omega)), a5⟩
  · rw [e]
    exact ⟨hpm, rows_up hrow hr, ⟨n, hn, (va_up_ne o1 (nI i) (show 3 ≠ 2 by omega)).trans e3⟩, ok259_o b9 (va_up_ne o1 (nI i) (show 6 ≠ 2 by omega)), ok261_o b1 (va_up_ne o1 (nI i) (show 7 ≠ 2 by omega)), a5⟩
  · rw [e]
    exact ⟨hp', rows_up (rows_up (rows_up hrow hr) (hrow 0 (by omega))) hr, ⟨k + 1, by omega, ho3⟩, ok259_o b9 (ho' 6 (by omega)), ok261_o b1 (ho' 7 (by omega)), a5⟩
theorem nI_big {j : Nat} (h : j < 2 ^ 31) : ¬ nI j = -100000000 := fun e => nI_pos h (by rw [e]; decide)
theorem j_f_runScript {c : Nat} {σ : ft_Sg} (h : ft_Jd c σ) (hc : c ≤ 1000) (hf : (w_runScript σ).1 = -100000000) : (w_runScript σ).2.1 0 = σ.1 0 := by
  obtain ⟨o1, g1, -, -, -, -, -, ⟨j, hj, hj4⟩, ⟨-, e⟩ | ⟨-, r, i, -, -, e⟩ | ⟨-, r, z, p', k, o', -, -, -, -, -, hz, e⟩⟩ := rs_ex h hc
  · rw [w2_runScript, e]
  · rw [w2_runScript, e]
    exact va_up_ne σ.1 r (show 0 ≠ 1 by omega)
  · rw [w1_runScript' e, hz, hj4] at hf
    exact absurd hf (nI_big (by omega))
theorem j_sv_runScript {c : Nat} {σ : ft_Sg} (h : ft_Jd c σ) (hc : c ≤ 1000) : ft_zv σ (w_runScript σ).2 := by
  obtain ⟨o1, g1, a1, -, -, -, -, -, ⟨-, e⟩ | ⟨-, r, i, -, -, e⟩ | ⟨-, r, z, p', k, o', -, -, -, -, ho', -, e⟩⟩ := rs_ex h hc
  · rw [w2_runScript, e]
    exact ⟨rfl, (va_up_ne o1 (o1 5) (show 0 ≠ 1 by omega)).trans (a1 0 (by omega) (by omega) (by omega) (by omega))⟩
  · rw [w2_runScript, e]
    exact ⟨va_up_ne σ.1 r (show 2 ≠ 1 by omega), (va_up_ne o1 (nI i) (show 0 ≠ 2 by omega)).trans (a1 0 (by omega) (by omega) (by omega) (by omega))⟩
  · rw [w2_runScript, e]
    refine ⟨?_, (ho' 0 (by omega)).trans (a1 0 (by omega) (by omega) (by omega) (by omega))⟩
    show va_up (va_up (va_up σ.1 1 r) (3 + p' k) (σ.1 0)) 0 r 2 = _
    rw [va_up_ne _ _ (by omega), va_up_ne _ _ (by omega), va_up_ne _ _ (by omega)]
theorem j_e_runScript {c : Nat} {σ : ft_Sg} (h : ft_Jd c σ) (hc : c ≤ 1000) : (w_runScript σ).2.2.2.1 6 = 0 := by
  obtain ⟨o1, g1, -, a2, -, -, -, -, ⟨-, e⟩ | ⟨-, r, i, -, -, e⟩ | ⟨-, r, z, p', k, o', -, -, -, -, ho', -, e⟩⟩ := rs_ex h hc
  · rw [w2_runScript, e]
    exact (va_up_ne o1 (o1 5) (show 6 ≠ 1 by omega)).trans a2
  · rw [w2_runScript, e]
    exact (va_up_ne o1 (nI i) (show 6 ≠ 2 by omega)).trans a2
  · rw [w2_runScript, e]
    exact (ho' 6 (by omega)).trans a2
theorem j_sc {c j : Nat} {σ : ft_Sg} (h : ft_Jd c σ) (hc : c + 1 ≤ 1000) (hj : j < 28) (hT : ft_Td j (ft_scn.getD j 0) σ) : ((w_runScript σ).1 = -100000000 → (w_runScript σ).2.1 0 = σ.1 0 ∧ ¬ w_failedCommand (w_runScript σ).2 < 0) ∧ (¬ (w_runScript σ).1 = -100000000 → ft_U (σ.1 0) (w_runScript σ).2) := by
  have hrd := Td_read hj hT
  obtain ⟨o1, g1, -, -, -, -, -, ⟨j4, hj4, ho4⟩, hh⟩ := rs_ex h (show c ≤ 1000 by omega)
  rcases hh with ⟨h0, e⟩ | ⟨-, r, i, hi, -, e⟩ | ⟨-, r, z, p', k, o', -, hk, -, ho3, ho', hz, e⟩
  · rw [hrd] at h0; exact absurd h0 (by decide)
  · refine ⟨fun _ => ⟨?_, ?_⟩, fun hn => absurd (w1_runScript e) hn⟩
    · rw [w2_runScript, e]
      exact va_up_ne σ.1 r (show 0 ≠ 1 by omega)
    · rw [w2_runScript, e]
      have e2 : l_failedCommand (va_up σ.1 1 r, σ.2.1, va_up o1 2 (nI i), g1) = .ok (nI i) := by
        unfold l_failedCommand s_X7_failedCommand s_X7_needFound
        show ft_xb (if va_up o1 2 (nI i) 2 = -1 then _ else Except.ok (va_up o1 2 (nI i) 2)) _ = _
        rw [va_up_self, if_neg (fun e => nI_pos (n := i) (by omega) (by rw [e]; decide))]
        rfl
      unfold w_failedCommand
      rw [e2]
      exact nI_pos (by omega)
  · refine ⟨fun hf => ?_, fun _ => ?_⟩
    · rw [w1_runScript' e, hz, ho4] at hf
      exact absurd hf (nI_big (by omega))
    · rw [w2_runScript, e]
      have eu := undo_eq (q := va_up (va_up (va_up σ.1 1 r) (3 + p' k) (σ.1 0)) 0 r) (pm := p') (o := o') hk ho3
      have el : l_undo (va_up (va_up (va_up σ.1 1 r) (3 + p' k) (σ.1 0)) 0 r, p', o', g1) = (.ok (nI k), (va_up (va_up (va_up (va_up σ.1 1 r) (3 + p' k) (σ.1 0)) 0 r) 0 ((va_up (va_up (va_up σ.1 1 r) (3 + p' k) (σ.1 0)) 0 r) (3 + p' k)), p', va_up o' 3 (nI k), g1)) := by
        unfold l_undo
        show ((s_X7_undo (va_up (va_up (va_up σ.1 1 r) (3 + p' k) (σ.1 0)) 0 r) p' o').1, ((s_X7_undo (va_up (va_up (va_up σ.1 1 r) (3 + p' k) (σ.1 0)) 0 r) p' o').2.1, (s_X7_undo (va_up (va_up (va_up σ.1 1 r) (3 + p' k) (σ.1 0)) 0 r) p' o').2.2.1, (s_X7_undo (va_up (va_up (va_up σ.1 1 r) (3 + p' k) (σ.1 0)) 0 r) p' o').2.2.2, g1)) = _
        rw [eu]
      unfold ft_U w_undo
      rw [el]
      refine ⟨nI_pos (by omega), ?_⟩
      show va_up (va_up (va_up (va_up σ.1 1 r) (3 + p' k) (σ.1 0)) 0 r) 0 ((va_up (va_up (va_up σ.1 1 r) (3 + p' k) (σ.1 0)) 0 r) (3 + p' k)) 0 = σ.1 0
      rw [va_up_self, va_up_ne _ _ (by omega), va_up_self]
