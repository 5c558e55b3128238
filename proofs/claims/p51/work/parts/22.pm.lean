/-! the history's places stay places -/
theorem pm_X2_keep (q : Nat → Nat → Int32) (pm : Nat → Nat) (o : Nat → Int32) (hp : ∀ i, i < 8 → pm i < 8) : ∀ i, i < 8 → (s_X2_keep q pm o).2.1 i < 8 := by
  have h := pm_X2_forgetOldest q pm o hp
  unfold s_X2_keep
  repeat' split
  all_goals first
    | exact hp
    | exact h
theorem pm_X7_takeDraft (q : Nat → Nat → Int32) (pm : Nat → Nat) (o : Nat → Int32) (hp : ∀ i, i < 8 → pm i < 8) : ∀ i, i < 8 → (s_X7_takeDraft q pm o).2.1 i < 8 := by
  unfold s_X7_takeDraft
  exact pm_X2_keep q pm o hp
