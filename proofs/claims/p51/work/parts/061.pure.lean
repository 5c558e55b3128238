/-! what the Truck's writing methods do to a row, in closed form, and that they touch the truck's own numbers alone -/
def ft_sh (r : Nat → Int32) (b m : Nat) : Nat → Int32 := fun q => if b + 8 ≤ q ∧ q < b + 8 + m then r (q + 1) else r q
theorem dropFirst_loop (r : Nat → Int32) (b : Nat) (K : Int32 → (Nat → Int32) → (Nat → Int32)) : ∀ (n i : Nat) (rr : Nat → Int32), 1 ≤ i → i ≤ 9 → 9 < n + i → rr = ft_sh r b (i - 1) → s_X6_dropFirst_L2 r b K n (nI i) rr = K (nI 9) (ft_sh r b 8) := by
  intro n
  induction n with
  | zero => intro i rr h1 h2 h3; omega
  | succ n ih =>
    intro i rr h1 h2 h3 hr
    rw [s_X6_dropFirst_L2]
    by_cases h9 : i = 9
    · subst h9
      rw [if_pos (by decide), hr]
    · have hlt : ¬ (9 : Int32) ≤ nI i := nI_ge (a := i) (b := 9) (by omega) (by decide)
      rw [if_neg hlt, nI_1]
      refine ih (i + 1) _ (by omega) (by omega) (by omega) ?_
      obtain ⟨j, rfl⟩ : ∃ j, i = j + 1 := ⟨i - 1, by omega⟩
      rw [nI_pred]
      have e1 : tn (nI j) = j := nI_clamp (by omega)
      have e2 : tn (nI (j + 1)) = j + 1 := nI_clamp (by omega)
      rw [e1, e2, ft_ar_get (by omega), hr]
      funext q
      simp only [va_up, ft_sh, Nat.add_sub_cancel]
      by_cases hq : q = b + 8 + j
      · subst hq
        rw [if_pos rfl, if_neg (by omega), if_pos ⟨by omega, by omega⟩]
        rfl
      · rw [if_neg hq]
        by_cases h5 : b + 8 ≤ q ∧ q < b + 8 + j
        · rw [if_pos h5, if_pos ⟨by omega, by omega⟩]
        · rw [if_neg h5, if_neg (by omega)]
theorem dropFirst_eq (r : Nat → Int32) (b : Nat) : s_X6_dropFirst r b = va_up (ft_sh r b 8) (b + 2) (r (b + 2) - 1) := by
  unfold s_X6_dropFirst
  have h := dropFirst_loop r b (fun y1_2 r_2 => va_up r_2 (b + 2) (r_2 (b + 2) - 1)) (tn 9 + 1) 1 r (by decide) (by decide) (by decide) (by funext q; simp [ft_sh]; omega)
  refine h.trans ?_
  have e : ft_sh r b 8 (b + 2) = r (b + 2) := if_neg (by omega)
  show va_up (ft_sh r b 8) (b + 2) (ft_sh r b 8 (b + 2) - 1) = _
  rw [e]
theorem o_X6_dropFirst (r : Nat → Int32) (b : Nat) : ∀ q, (q < b ∨ b + 17 ≤ q) → s_X6_dropFirst r b q = r q := by
  intro q hq
  rw [dropFirst_eq, va_up_ne _ _ (by omega)]
  exact if_neg (by omega)
theorem o_X6_sendAllAway (r : Nat → Int32) (b : Nat) : ∀ q, (q < b ∨ b + 17 ≤ q) → (s_X6_sendAllAway r b).2 q = r q := by
  intro q hq
  show va_up (va_up r (b + 2) 0) (b + 1) 0 q = r q
  rw [va_up_ne _ _ (by omega), va_up_ne _ _ (by omega)]
theorem o_X6_joinQueue (r : Nat → Int32) (b : Nat) (x : Int32) : ∀ q, (q < b ∨ b + 17 ≤ q) → (s_X6_joinQueue r b x).2 q = r q := by
  intro q hq
  unfold s_X6_joinQueue
  by_cases h1 : r (b + 2) < 0
  · rw [if_pos h1]
  · rw [if_neg h1]
    by_cases h2 : r (b + 2) < 9
    · rw [if_pos h2]
      have h3 : tn (r (b + 2)) < 9 := ft_tn (in_of2 h1 h2)
      show va_up (va_up r (b + 8 + tn (r (b + 2))) x) (b + 2) _ q = r q
      rw [va_up_ne _ _ (by omega), va_up_ne _ _ (by omega)]
    · rw [if_neg h2]
theorem copyFrom_eq (r : Nat → Int32) (b : Nat) (r2 : Nat → Int32) (b2 : Nat) : s_X6_copyFrom r b r2 b2 = ft_cp r b r2 b2 17 := by
  funext q
  unfold s_X6_copyFrom
  simp only [va_up, ft_cp]
  by_cases hq : b ≤ q ∧ q < b + 17
  · obtain ⟨j, rfl⟩ : ∃ j, q = b + j := ⟨q - b, by omega⟩
    rw [if_pos hq, Nat.add_sub_cancel_left]
    by_cases h3 : j = 3
    · subst h3; rw [if_pos rfl]
    rw [if_neg (by omega)]
    by_cases h0 : j = 0
    · subst h0; rw [if_pos rfl]
    rw [if_neg (by omega)]
    by_cases h1 : j = 1
    · subst h1; rw [if_pos rfl]
    rw [if_neg (by omega)]
    by_cases h2 : j = 2
    · subst h2; rw [if_pos rfl]
    rw [if_neg (by omega)]
    by_cases h8 : 8 ≤ j
    · rw [if_pos ⟨by omega, by omega⟩]
      exact congrArg r2 (by omega)
    · rw [if_neg (by omega), if_pos ⟨by omega, by omega⟩]
      exact congrArg r2 (by omega)
  · rw [if_neg hq, if_neg (by omega), if_neg (by omega), if_neg (by omega), if_neg (by omega), if_neg (by omega), if_neg (by omega)]
theorem ft_up_a1 {r : Nat → Int32} {i j : Nat} {v : Int32} (h : j < 4) : ∀ q, (q < 51 + 17 * i ∨ 51 + 17 * i + 17 ≤ q) → va_up r (51 + 17 * i + 4 + j) v q = r q := fun q hq => va_up_ne _ _ (by omega)
theorem ft_up_a2 {r : Nat → Int32} {i j : Nat} {v : Int32} (h : j < 9) : ∀ q, (q < 51 + 17 * i ∨ 51 + 17 * i + 17 ≤ q) → va_up r (51 + 17 * i + 8 + j) v q = r q := fun q hq => va_up_ne _ _ (by omega)
/-- a case on 'a truck or null' -/
def ft_op {α : Type} (o : Option Nat) (a : α) (f : Nat → α) : α := match o with
  | none => a
  | some j => f j
theorem ft_op_n {α : Type} (a : α) (f : Nat → α) : ft_op none a f = a := rfl
theorem ft_op_s {α : Type} (j : Nat) (a : α) (f : Nat → α) : ft_op (some j) a f = f j := rfl
