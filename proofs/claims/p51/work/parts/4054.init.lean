/-! a new object -/
def ft_X0 : pu_S := (fun j => if j = 3 then 1 else 0, fun _ => 5, fun _ => 0, fun _ => none, fun _ _ => 0)
theorem ft_r0_X : ft_r0 = pu_r ft_X0 := by
  funext j
  unfold ft_r0 pu_r
  by_cases h1 : j < 8
  · rw [if_pos h1]
    by_cases h3 : j = 3
    · rw [if_pos h3]
      show 1 = nI (if j = 3 then 1 else 0)
      rw [if_pos h3]; rfl
    · rw [if_neg h3, if_neg (by omega), if_neg (by omega)]
      show 0 = nI (if j = 3 then 1 else 0)
      rw [if_neg h3]; rfl
  · rw [if_neg h1, if_neg (by omega)]
    by_cases h2 : j < 12
    · rw [if_pos (by omega), if_pos h2]; rfl
    · rw [if_neg (by omega), if_neg h2]
      by_cases h3 : j < 16
      · rw [if_neg (by omega), if_pos h3]; rfl
      · rw [if_neg h3]
        by_cases h4 : j < 51
        · rw [if_pos (by omega), if_pos h4]; rfl
        · rw [if_neg (by omega), if_neg h4]; rfl
theorem ft_X0_I : pu_I ft_X0 := by
  refine ⟨⟨by decide, by decide⟩, ⟨by decide, by decide, by decide⟩, fun d _ => show 5 ≤ 20 by omega, fun t _ => ⟨Nat.zero_le _, show 0 < 128 by omega, fun d _ => Nat.zero_le _, fun j hj => absurd hj (Nat.not_lt_zero j), fun h => absurd h (Nat.not_lt_zero 0)⟩, fun t _ _ => ⟨rfl, rfl, fun _ _ => rfl⟩, fun i _ t h => ?_, fun p q d t _ _ _ h _ => ?_, fun t _ _ => rfl⟩
  · cases h
  · cases h
theorem ft_row0 : pRow 0 ft_r0 := ⟨ft_X0, ft_r0_X, ft_X0_I, ⟨by decide, by decide⟩, by decide⟩
abbrev ft_σ0 : ft_Sg := (fun _ => ft_r0, fun i => i, ft_o0, ft_g0)
theorem ft_J0 : Jx 0 ft_σ0 := by
  refine Jx.u ⟨fun i hi => hi, fun i _ => ft_row0, ⟨0, by omega, rfl⟩, ⟨⟨0, by omega, rfl, Nat.zero_le _⟩, Or.inl rfl, fun j => rfl⟩, ⟨⟨0, by omega, rfl, Nat.zero_le _⟩, Or.inl rfl, fun j => rfl⟩, fun n _ => show 0 < 9 by omega⟩ (by omega)
