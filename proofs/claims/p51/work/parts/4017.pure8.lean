def ft_xn (z : Int32) : String := if z = (-5) then "java/util/NoSuchElementException" else (if z = (-4) then "java/lang/IllegalStateException" else (if z = (-3) then "java/lang/UnsupportedOperationException" else (if z = (-2) then "java/lang/IllegalArgumentException" else (if z = (-1) then "java/lang/IndexOutOfBoundsException" else "java/lang/IllegalStateException"))))
theorem refuse_eq (z : Int32) : s_X7_refuse z = .error (ft_xn z) := by
  unfold s_X7_refuse ft_xn
  by_cases h5 : z = (-5)
  · rw [if_pos h5, if_pos h5]
  rw [if_neg h5, if_neg h5]
  by_cases h4 : z = (-4)
  · rw [if_pos h4, if_pos h4]
  rw [if_neg h4, if_neg h4]
  by_cases h3 : z = (-3)
  · rw [if_pos h3, if_pos h3]
  rw [if_neg h3, if_neg h3]
  by_cases h2 : z = (-2)
  · rw [if_pos h2, if_pos h2]
  rw [if_neg h2, if_neg h2]
  by_cases h1 : z = (-1)
  · rw [if_pos h1, if_pos h1]
  · rw [if_neg h1, if_neg h1]
theorem va_up_up {α : Type} (f : Nat → α) (k : Nat) (x y : α) : va_up (va_up f k x) k y = va_up f k y := by
  funext j
  by_cases hj : j = k
  · subst hj; rw [va_up_self, va_up_self]
  · rw [va_up_ne _ _ hj, va_up_ne _ _ hj, va_up_ne _ _ hj]
theorem change_eq (q : Nat → Nat → Int32) (pm : Nat → Nat) (o : Nat → Int32) (c1 : Nat) (x2 x3 x4 : Int32) : s_X7_change q pm o c1 x2 x3 x4 = if 0 ≤ (s_X4_carryOut c1 (q 0) x2 x3 x4).1 then (.ok (s_X4_carryOut c1 (q 0) x2 x3 x4).1, s_X7_takeDraft (va_up q 1 (s_X4_carryOut c1 (q 0) x2 x3 x4).2) pm o) else (.error (ft_xn (s_X4_carryOut c1 (q 0) x2 x3 x4).1), (va_up q 1 (s_X4_carryOut c1 (q 0) x2 x3 x4).2, pm, o)) := by
  have e : (va_up q 1 (s_X4_copyFrom (q 1) (q 0))) 1 = q 0 := va_up_self _ _ _
  have e2 : ∀ y, va_up (va_up q 1 (s_X4_copyFrom (q 1) (q 0))) 1 y = va_up q 1 y := fun y => va_up_up _ _ _ _
  unfold s_X7_change
  rw [e, e2]
  by_cases h : 0 ≤ (s_X4_carryOut c1 (q 0) x2 x3 x4).1
  · rw [if_pos h, if_pos h]
  · rw [if_neg h, if_neg h, refuse_eq]
    rfl
theorem forget_L (q : Nat → Nat → Int32) (pm : Nat → Nat) (o : Nat → Int32) : ∀ (m : Nat) (y : Int32) (p : Nat → Nat), ∃ p', s_X2_forgetOldest_L9 q pm o (fun y2_9 pm_9 => (q, va_up pm_9 (tn 7) (pm (tn 0)), va_up o 3 7)) m y p = (q, p', va_up o 3 7) := by
  intro m
  induction m with
  | zero => intro y p; exact ⟨_, rfl⟩
  | succ m ih =>
    intro y p
    rw [s_X2_forgetOldest_L9]
    split
    · exact ⟨_, rfl⟩
    · exact ih _ _
theorem keep_ex {q : Nat → Nat → Int32} {pm : Nat → Nat} {o : Nat → Int32} (hpm : ∀ i, i < 8 → pm i < 8) {n : Nat} (hn : n ≤ 8) (ho : o 3 = nI n) : ∃ (p' : Nat → Nat) (k : Nat) (o' : Nat → Int32), s_X2_keep q pm o = (va_up q (3 + p' k) (q 0), p', o') ∧ k < 8 ∧ (∀ i, i < 8 → p' i < 8) ∧ o' 3 = nI (k + 1) ∧ ∀ i, i ≠ 3 → o' i = o i := by
  by_cases h : n < 8
  · refine ⟨pm, n, va_up o 3 (nI (n + 1)), ?_, h, hpm, va_up_self _ _ _, fun i hi => va_up_ne _ _ hi⟩
    unfold s_X2_keep
    rw [ho, if_pos (show nI n < (8 : Int32) from nI_lt (b := 8) h (by decide)), if_neg (nI_pos (by omega)), if_neg (show ¬ (8 : Int32) ≤ nI n from nI_ge (b := 8) h (by decide)), ft_tnI (by omega), nI_1]
    rfl
  · obtain rfl : n = 8 := by omega
    obtain ⟨p', ef⟩ := forget_L q pm o (tn 8 + 1) 1 pm
    have ef : s_X2_forgetOldest q pm o = (q, p', va_up o 3 7) := ef
    have hb := pm_X2_forgetOldest q pm o hpm
    rw [ef] at hb
    refine ⟨p', 7, va_up (va_up o 3 7) 3 (7 + 1), ?_, by omega, hb, (va_up_self _ _ _).trans (by decide), fun i hi => by rw [va_up_ne _ _ hi, va_up_ne _ _ hi]⟩
    unfold s_X2_keep
    rw [ho, if_neg (by decide), ef]
    show (if (va_up o 3 7) 3 < 0 then _ else (if 8 ≤ (va_up o 3 7) 3 then _ else _)) = _
    rw [va_up_self, if_neg (by decide), if_neg (by decide)]
    rfl
theorem take_ex {q : Nat → Nat → Int32} {pm : Nat → Nat} {o : Nat → Int32} (hpm : ∀ i, i < 8 → pm i < 8) {n : Nat} (hn : n ≤ 8) (ho : o 3 = nI n) : ∃ (p' : Nat → Nat) (k : Nat) (o' : Nat → Int32), s_X7_takeDraft q pm o = (va_up (va_up q (3 + p' k) (q 0)) 0 (q 1), p', o') ∧ k < 8 ∧ (∀ i, i < 8 → p' i < 8) ∧ o' 3 = nI (k + 1) ∧ ∀ i, i ≠ 3 → o' i = o i := by
  obtain ⟨p', k, o', h1, h2⟩ := keep_ex (q := q) hpm hn ho
  refine ⟨p', k, o', ?_, h2⟩
  unfold s_X7_takeDraft
  rw [h1]
  show (va_up (va_up q (3 + p' k) (q 0)) 0 ((va_up q (3 + p' k) (q 0)) 1), p', o') = _
  rw [va_up_ne q _ (show 1 ≠ 3 + p' k by omega)]
theorem undo_eq {q : Nat → Nat → Int32} {pm : Nat → Nat} {o : Nat → Int32} {k : Nat} (hk : k < 8) (ho : o 3 = nI (k + 1)) : s_X7_undo q pm o = (.ok (nI k), (va_up q 0 (q (3 + pm k)), pm, va_up o 3 (nI k))) := by
  have e : s_X2_giveBack q pm o = (1, (va_up q 0 (q (3 + pm k)), pm, va_up o 3 (nI k))) := by
    unfold s_X2_giveBack
    rw [ho, if_neg (show ¬ nI (k + 1) < (1 : Int32) from nI_nlt (b := 1) (by omega) (by omega)), if_pos (show nI (k + 1) ≤ (8 : Int32) from nI_le (b := 8) (by omega) (by decide)), nI_pred, va_up_self, ft_tnI (by omega)]
    rfl
  unfold s_X7_undo
  rw [e, if_neg (show ¬ (1 : Int32) = 0 by decide)]
  show (Except.ok ((va_up o 3 (nI k)) 3), _) = _
  rw [va_up_self]
theorem undo_none {q : Nat → Nat → Int32} {pm : Nat → Nat} {o : Nat → Int32} (ho : o 3 = 0) : s_X7_undo q pm o = (.error "java/util/NoSuchElementException", (q, pm, o)) := by
  have e : s_X2_giveBack q pm o = (0, (q, pm, o)) := by
    unfold s_X2_giveBack
    rw [ho, if_pos (by decide)]
  unfold s_X7_undo
  rw [e, if_pos rfl]
/-! the state that every call keeps -/
def pRow (c : Nat) (r : Nat → Int32) : Prop := ∃ X, r = pu_r X ∧ pu_I X ∧ pu_T X ∧ 60 * pA X 1 + pA X 2 ≤ 900 * c
theorem pRow.mono {c d : Nat} {r : Nat → Int32} (h : pRow c r) (hd : c ≤ d) : pRow d r := by
  obtain ⟨X, h1, h2, h3, h4⟩ := h
  exact ⟨X, h1, h2, h3, by omega⟩
def ft_Jd (c : Nat) (σ : ft_Sg) : Prop := (∀ i, i < 8 → σ.2.1 i < 8) ∧ (∀ i, i < 11 → pRow c (σ.1 i)) ∧ (∃ n, n ≤ 8 ∧ σ.2.2.1 3 = nI n) ∧ ft_ok259 σ.2.2.1 σ.2.2.2 60 ∧ ft_ok261 σ.2.2.1 σ.2.2.2 70 ∧ (∀ n, n < 15 → σ.2.2.2.2.2.1 n < 9)
def ft_Gd (r : Nat → Int32) : Prop := pRow 1000 r
theorem Jd_mono {c d : Nat} {σ : ft_Sg} (h : ft_Jd c σ) (hd : c ≤ d) : ft_Jd d σ := ⟨h.1, fun i hi => (h.2.1 i hi).mono hd, h.2.2⟩
theorem rows_up {c : Nat} {q : Nat → Nat → Int32} {j : Nat} {r : Nat → Int32} (h : ∀ i, i < 11 → pRow c (q i)) (hr : pRow c r) : ∀ i, i < 11 → pRow c (va_up q j r i) := by
  intro i hi
  by_cases e : i = j
  · subst e; rw [va_up_self]; exact hr
  · rw [va_up_ne _ _ e]; exact h i hi
theorem ok259_o {o o' : Nat → Int32} {g : ft_G} {n : Nat} (h : ft_ok259 o g n) (e : o' 6 = o 6) : ft_ok259 o' g n := by
  unfold ft_ok259 at *
  rw [e]
  exact h
theorem ok261_o {o o' : Nat → Int32} {g : ft_G} {n : Nat} (h : ft_ok261 o g n) (e : o' 7 = o 7) : ft_ok261 o' g n := by
  unfold ft_ok261 at *
  rw [e]
  exact h
def lchg (σ : ft_Sg) (c1 : Nat) (a b d : Int32) : Except String Int32 × ft_Sg := ((s_X7_change σ.1 σ.2.1 σ.2.2.1 c1 a b d).1, ((s_X7_change σ.1 σ.2.1 σ.2.2.1 c1 a b d).2.1, (s_X7_change σ.1 σ.2.1 σ.2.2.1 c1 a b d).2.2.1, (s_X7_change σ.1 σ.2.1 σ.2.2.1 c1 a b d).2.2.2, σ.2.2.2))
/-- all that a command does: refused, or the row new and the old one kept -/
theorem chg_ex {c : Nat} {σ : ft_Sg} (h : ft_Jd c σ) (hc : c ≤ 1000) (c1 : Nat) (a b d : Int32) : ∃ (X : pu_S), σ.1 0 = pu_r X ∧ pu_I X ∧ pu_T X ∧ 60 * pA X 1 + pA X 2 ≤ 900 * c ∧ ∃ (z : Int32) (Y : pu_S), s_X4_carryOut c1 (pu_r X) a b d = (z, pu_r Y) ∧ pu_I Y ∧ pu_T Y ∧ 60 * pA Y 1 + pA Y 2 ≤ 60 * pA X 1 + pA X 2 + 60 ∧ (c1 < 8 → 60 * pA Y 1 + pA Y 2 = 60 * pA X 1 + pA X 2) ∧ ((¬ 0 ≤ z ∧ z ∈ ft_cd c1 ∧ lchg σ c1 a b d = (.error (ft_xn z), (va_up σ.1 1 (pu_r Y), σ.2.1, σ.2.2.1, σ.2.2.2))) ∨ (0 ≤ z ∧ ∃ (p' : Nat → Nat) (k : Nat) (o' : Nat → Int32), k < 8 ∧ (∀ i, i < 8 → p' i < 8) ∧ o' 3 = nI (k + 1) ∧ (∀ i, i ≠ 3 → o' i = σ.2.2.1 i) ∧ lchg σ c1 a b d = (.ok z, (va_up (va_up (va_up σ.1 1 (pu_r Y)) (3 + p' k) (σ.1 0)) 0 (pu_r Y), p', o', σ.2.2.2)))) := by
  obtain ⟨hpm, hrow, ⟨n, hn, ho⟩, -⟩ := h
  obtain ⟨X, x1, x2, x3, x4⟩ := hrow 0 (by omega)
  obtain ⟨z, Y, y1, y2, y3, -, y5, y6, y7⟩ := pu_carry x2 x3 (by omega) c1 a b d
  refine ⟨X, x1, x2, x3, x4, z, Y, y1, y2, y3, y5, y6, ?_⟩
  have ec := change_eq σ.1 σ.2.1 σ.2.2.1 c1 a b d
  rw [x1, y1] at ec
  by_cases hz : 0 ≤ z
  · rw [if_pos (show 0 ≤ (z, pu_r Y).1 from hz)] at ec
    obtain ⟨p', k, o', t1, t2, t3, t4, t5⟩ := take_ex (q := va_up σ.1 1 (pu_r Y)) hpm hn ho
    have e0 : va_up σ.1 1 (pu_r Y) 0 = σ.1 0 := va_up_ne _ _ (by omega)
    have e1 : va_up σ.1 1 (pu_r Y) 1 = pu_r Y := va_up_self _ _ _
    rw [e0, e1] at t1
    refine Or.inr ⟨hz, p', k, o', t2, t3, t4, t5, ?_⟩
    unfold lchg
    rw [ec]
    show (Except.ok z, ((s_X7_takeDraft (va_up σ.1 1 (pu_r Y)) σ.2.1 σ.2.2.1).1, (s_X7_takeDraft (va_up σ.1 1 (pu_r Y)) σ.2.1 σ.2.2.1).2.1, (s_X7_takeDraft (va_up σ.1 1 (pu_r Y)) σ.2.1 σ.2.2.1).2.2, σ.2.2.2)) = _
    rw [t1]
  · rw [if_neg (show ¬ 0 ≤ (z, pu_r Y).1 from hz)] at ec
    refine Or.inl ⟨hz, y7.resolve_left hz, ?_⟩
    unfold lchg
    rw [ec]
theorem g_ex {c : Nat} {σ : ft_Sg} (h : ft_Jd c σ) (hc : c ≤ 1000) {c1 : Nat} {a b d : Int32} {E : String} (he : (lchg σ c1 a b d).1 = .error E) : ∃ z, z ∈ ft_cd c1 ∧ E = ft_xn z := by
  obtain ⟨X, -, -, -, -, z, Y, -, -, -, -, -, hh⟩ := chg_ex h hc c1 a b d
  rcases hh with ⟨-, h2, h3⟩ | ⟨-, p', k, o', -, -, -, -, h3⟩
  · rw [h3] at he
    exact ⟨z, h2, (Except.error.inj he).symm⟩
  · rw [h3] at he; cases he
theorem g_k {c k : Nat} {σ : ft_Sg} (h : ft_Jd c σ) (hc : c ≤ 1000) (c1 : Nat) (a b d : Int32) (hk : c1 < 8 ∨ 1 ≤ k) : ft_Jd (c + k) (lchg σ c1 a b d).2 := by
  have h0 := h
  obtain ⟨X, x1, x2, x3, x4, z, Y, y1, y2, y3, y5, y6, hh⟩ := chg_ex h hc c1 a b d
  obtain ⟨hpm, hrow, ⟨n, hn, ho⟩, h9, h1, hg⟩ := h
  have hY : pRow (c + k) (pu_r Y) := ⟨Y, rfl, y2, y3, by
    rcases hk with hk | hk
    · rw [y6 hk]; omega
    · omega⟩
  have hrow2 : ∀ i, i < 11 → pRow (c + k) (σ.1 i) := fun i hi => (hrow i hi).mono (by omega)
  rcases hh with ⟨-, -, h3⟩ | ⟨-, p', j, o', t1, t2, t3, t4, h3⟩
  · rw [h3]
    exact ⟨hpm, rows_up hrow2 hY, ⟨n, hn, ho⟩, h9, h1, hg⟩
  · rw [h3]
    exact ⟨t2, rows_up (rows_up (rows_up hrow2 hY) (hrow2 0 (by omega))) hY, ⟨j + 1, by omega, t3⟩, ok259_o h9 (t4 6 (by omega)), ok261_o h1 (t4 7 (by omega)), hg⟩
theorem g_f {c : Nat} {σ : ft_Sg} (h : ft_Jd c σ) (hc : c ≤ 1000) {c1 : Nat} {a b d : Int32} (hf : ∀ z, (lchg σ c1 a b d).1 = .ok z → ¬ 0 ≤ z) : (lchg σ c1 a b d).2.1 0 = σ.1 0 := by
  obtain ⟨X, -, -, -, -, z, Y, -, -, -, -, -, hh⟩ := chg_ex h hc c1 a b d
  rcases hh with ⟨-, h2, h3⟩ | ⟨hz, p', k, o', -, -, -, -, h3⟩
  · rw [h3]
    show va_up σ.1 1 (pu_r Y) 0 = _
    exact va_up_ne _ _ (by omega)
  · exact absurd hz (hf z (by rw [h3]))
theorem g_sv {c : Nat} {σ : ft_Sg} (h : ft_Jd c σ) (c1 : Nat) (a b d : Int32) : ft_zv σ (lchg σ c1 a b d).2 := by
  obtain ⟨hpm, hrow, ⟨n, hn, ho⟩, -⟩ := h
  have ec := change_eq σ.1 σ.2.1 σ.2.2.1 c1 a b d
  unfold lchg
  rw [ec]
  by_cases hz : 0 ≤ (s_X4_carryOut c1 (σ.1 0) a b d).1
  · rw [if_pos hz]
    obtain ⟨p', k, o', t1, t2, t3, t4, t5⟩ := take_ex (q := va_up σ.1 1 (s_X4_carryOut c1 (σ.1 0) a b d).2) hpm hn ho
    show ft_zv σ ((s_X7_takeDraft (va_up σ.1 1 (s_X4_carryOut c1 (σ.1 0) a b d).2) σ.2.1 σ.2.2.1).1, (s_X7_takeDraft (va_up σ.1 1 (s_X4_carryOut c1 (σ.1 0) a b d).2) σ.2.1 σ.2.2.1).2.1, (s_X7_takeDraft (va_up σ.1 1 (s_X4_carryOut c1 (σ.1 0) a b d).2) σ.2.1 σ.2.2.1).2.2, σ.2.2.2)
    rw [t1]
    refine ⟨?_, t5 0 (by omega)⟩
    show va_up (va_up (va_up σ.1 1 (s_X4_carryOut c1 (σ.1 0) a b d).2) (3 + p' k) (va_up σ.1 1 (s_X4_carryOut c1 (σ.1 0) a b d).2 0)) 0 (va_up σ.1 1 (s_X4_carryOut c1 (σ.1 0) a b d).2 1) 2 = _
    rw [va_up_ne _ _ (by omega), va_up_ne _ _ (by omega), va_up_ne _ _ (by omega)]
  · rw [if_neg hz]
    refine ⟨?_, rfl⟩
    show va_up σ.1 1 (s_X4_carryOut c1 (σ.1 0) a b d).2 2 = _
    exact va_up_ne _ _ (by omega)
/-- behind a command that went through: taking it back gives the old row -/
theorem g_U {c : Nat} {σ : ft_Sg} (h : ft_Jd c σ) (hc : c ≤ 1000) {c1 : Nat} {a b d z : Int32} (hz : (lchg σ c1 a b d).1 = .ok z) : ft_U (σ.1 0) (lchg σ c1 a b d).2 ∧ (lchg σ c1 a b d).2.1 0 = (s_X4_carryOut c1 (σ.1 0) a b d).2 ∧ z = (s_X4_carryOut c1 (σ.1 0) a b d).1 ∧ 0 ≤ z := by
  obtain ⟨X, x1, -, -, -, z', Y, y1, -, -, -, -, hh⟩ := chg_ex h hc c1 a b d
  rcases hh with ⟨-, h2, h3⟩ | ⟨hz0, p', k, o', t1, t2, t3, t4, h3⟩
  · rw [h3] at hz; cases hz
  · rw [h3] at hz
    obtain rfl : z' = z := Except.ok.inj hz
    rw [h3]
    refine ⟨?_, ?_, by rw [x1, y1], hz0⟩
    · have e := undo_eq (q := va_up (va_up (va_up σ.1 1 (pu_r Y)) (3 + p' k) (σ.1 0)) 0 (pu_r Y)) (pm := p') (o := o') t1 t3
      have el : l_undo (va_up (va_up (va_up σ.1 1 (pu_r Y)) (3 + p' k) (σ.1 0)) 0 (pu_r Y), p', o', σ.2.2.2) = (.ok (nI k), (va_up (va_up (va_up (va_up σ.1 1 (pu_r Y)) (3 + p' k) (σ.1 0)) 0 (pu_r Y)) 0 ((va_up (va_up (va_up σ.1 1 (pu_r Y)) (3 + p' k) (σ.1 0)) 0 (pu_r Y)) (3 + p' k)), p', va_up o' 3 (nI k), σ.2.2.2)) := by
        unfold l_undo
        show ((s_X7_undo (va_up (va_up (va_up σ.1 1 (pu_r Y)) (3 + p' k) (σ.1 0)) 0 (pu_r Y)) p' o').1, ((s_X7_undo (va_up (va_up (va_up σ.1 1 (pu_r Y)) (3 + p' k) (σ.1 0)) 0 (pu_r Y)) p' o').2.1, (s_X7_undo (va_up (va_up (va_up σ.1 1 (pu_r Y)) (3 + p' k) (σ.1 0)) 0 (pu_r Y)) p' o').2.2.1, (s_X7_undo (va_up (va_up (va_up σ.1 1 (pu_r Y)) (3 + p' k) (σ.1 0)) 0 (pu_r Y)) p' o').2.2.2, σ.2.2.2)) = _
        rw [e]
      unfold ft_U w_undo
      rw [el]
      refine ⟨nI_pos (by omega), ?_⟩
      show va_up (va_up (va_up (va_up σ.1 1 (pu_r Y)) (3 + p' k) (σ.1 0)) 0 (pu_r Y)) 0 ((va_up (va_up (va_up σ.1 1 (pu_r Y)) (3 + p' k) (σ.1 0)) 0 (pu_r Y)) (3 + p' k)) 0 = σ.1 0
      rw [va_up_self, va_up_ne _ _ (by omega), va_up_self]
    · show va_up (va_up (va_up σ.1 1 (pu_r Y)) (3 + p' k) (σ.1 0)) 0 (pu_r Y) 0 = _
      rw [va_up_self, x1, y1]

theorem lc_addTruck (σ : ft_Sg) : (l_addTruck σ) = lchg σ 0 0 0 0 := by
  unfold l_addTruck s_X7_addTruck lchg
  generalize s_X7_change σ.1 σ.2.1 σ.2.2.1 0 0 0 0 = e
  obtain ⟨e1, e2⟩ := e
  cases e1 <;> rfl
theorem w2_addTruck (σ : ft_Sg) : (w_addTruck σ).2 = (l_addTruck σ).2 := by
  unfold w_addTruck
  split <;> rfl
theorem j_ex_addTruck {c : Nat} {σ : ft_Sg} (h : ft_Jd c σ) (hc : c ≤ 1000) : ∀ E, (l_addTruck σ).1 = .error E → E ∈ ["java/lang/IllegalStateException"] := by
  intro E hE
  rw [lc_addTruck] at hE
  obtain ⟨z, hz, rfl⟩ := g_ex h hc hE
  exact (show ∀ z ∈ ft_cd 0, ft_xn z ∈ ["java/lang/IllegalStateException"] by decide) z hz
theorem j_k_addTruck {c : Nat} {σ : ft_Sg} (h : ft_Jd c σ) (hc : c + 0 ≤ 1000) : ft_Jd (c + 0) (w_addTruck σ).2 := by
  rw [w2_addTruck, lc_addTruck]
  exact g_k h (by omega) 0 0 0 0 (Or.inl (by omega))
theorem j_f_addTruck {c : Nat} {σ : ft_Sg} (h : ft_Jd c σ) (hc : c ≤ 1000) (hf : (w_addTruck σ).1 = -100000000) : (w_addTruck σ).2.1 0 = σ.1 0 := by
  rw [w2_addTruck, lc_addTruck]
  refine g_f h hc (fun z hz => ?_)
  unfold w_addTruck at hf
  rw [lc_addTruck, hz] at hf
  have hf : z = -100000000 := hf
  rw [hf]
  decide
theorem j_sv_addTruck {c : Nat} {σ : ft_Sg} (h : ft_Jd c σ) : ft_zv σ (w_addTruck σ).2 := by
  rw [w2_addTruck, lc_addTruck]
  exact g_sv h 0 0 0 0
theorem lc_addStock (σ : ft_Sg) (x1 : Int32) (x2 : Int32) (x3 : Int32) : (l_addStock σ x1 x2 x3) = lchg σ 1 x1 x2 x3 := by
  unfold l_addStock s_X7_addStock lchg
  generalize s_X7_change σ.1 σ.2.1 σ.2.2.1 1 x1 x2 x3 = e
  obtain ⟨e1, e2⟩ := e
  cases e1 <;> rfl
theorem w2_addStock (σ : ft_Sg) (x1 : Int32) (x2 : Int32) (x3 : Int32) : (w_addStock σ x1 x2 x3).2 = (l_addStock σ x1 x2 x3).2 := by
  unfold w_addStock
  split <;> rfl
theorem j_ex_addStock {c : Nat} {σ : ft_Sg} (x1 : Int32) (x2 : Int32) (x3 : Int32) (h : ft_Jd c σ) (hc : c ≤ 1000) : ∀ E, (l_addStock σ x1 x2 x3).1 = .error E → E ∈ ["java/lang/IndexOutOfBoundsException", "java/lang/IllegalArgumentException", "java/lang/IllegalStateException"] := by
  intro E hE
  rw [lc_addStock] at hE
  obtain ⟨z, hz, rfl⟩ := g_ex h hc hE
  exact (show ∀ z ∈ ft_cd 1, ft_xn z ∈ ["java/lang/IndexOutOfBoundsException", "java/lang/IllegalArgumentException", "java/lang/IllegalStateException"] by decide) z hz
theorem j_k_addStock {c : Nat} {σ : ft_Sg} (x1 : Int32) (x2 : Int32) (x3 : Int32) (h : ft_Jd c σ) (hc : c + 0 ≤ 1000) : ft_Jd (c + 0) (w_addStock σ x1 x2 x3).2 := by
  rw [w2_addStock, lc_addStock]
  exact g_k h (by omega) 1 x1 x2 x3 (Or.inl (by omega))
theorem j_f_addStock {c : Nat} {σ : ft_Sg} (x1 : Int32) (x2 : Int32) (x3 : Int32) (h : ft_Jd c σ) (hc : c ≤ 1000) (hf : (w_addStock σ x1 x2 x3).1 = -100000000) : (w_addStock σ x1 x2 x3).2.1 0 = σ.1 0 := by
  rw [w2_addStock, lc_addStock]
  refine g_f h hc (fun z hz => ?_)
  unfold w_addStock at hf
  rw [lc_addStock, hz] at hf
  have hf : z = -100000000 := hf
  rw [hf]
  decide
theorem j_sv_addStock {c : Nat} {σ : ft_Sg} (x1 : Int32) (x2 : Int32) (x3 : Int32) (h : ft_Jd c σ) : ft_zv σ (w_addStock σ x1 x2 x3).2 := by
  rw [w2_addStock, lc_addStock]
  exact g_sv h 1 x1 x2 x3
theorem lc_setPrice (σ : ft_Sg) (x1 : Int32) (x2 : Int32) : (l_setPrice σ x1 x2) = lchg σ 2 x1 x2 0 := by
  unfold l_setPrice s_X7_setPrice lchg
  generalize s_X7_change σ.1 σ.2.1 σ.2.2.1 2 x1 x2 0 = e
  obtain ⟨e1, e2⟩ := e
  cases e1 <;> rfl
theorem w2_setPrice (σ : ft_Sg) (x1 : Int32) (x2 : Int32) : (w_setPrice σ x1 x2).2 = (l_setPrice σ x1 x2).2 := by
  unfold w_setPrice
  split <;> rfl
theorem j_ex_setPrice {c : Nat} {σ : ft_Sg} (x1 : Int32) (x2 : Int32) (h : ft_Jd c σ) (hc : c ≤ 1000) : ∀ E, (l_setPrice σ x1 x2).1 = .error E → E ∈ ["java/lang/IndexOutOfBoundsException", "java/lang/IllegalArgumentException"] := by
  intro E hE
  rw [lc_setPrice] at hE
  obtain ⟨z, hz, rfl⟩ := g_ex h hc hE
  exact (show ∀ z ∈ ft_cd 2, ft_xn z ∈ ["java/lang/IndexOutOfBoundsException", "java/lang/IllegalArgumentException"] by decide) z hz
theorem j_k_setPrice {c : Nat} {σ : ft_Sg} (x1 : Int32) (x2 : Int32) (h : ft_Jd c σ) (hc : c + 0 ≤ 1000) : ft_Jd (c + 0) (w_setPrice σ x1 x2).2 := by
  rw [w2_setPrice, lc_setPrice]
  exact g_k h (by omega) 2 x1 x2 0 (Or.inl (by omega))
theorem j_f_setPrice {c : Nat} {σ : ft_Sg} (x1 : Int32) (x2 : Int32) (h : ft_Jd c σ) (hc : c ≤ 1000) (hf : (w_setPrice σ x1 x2).1 = -100000000) : (w_setPrice σ x1 x2).2.1 0 = σ.1 0 := by
  rw [w2_setPrice, lc_setPrice]
  refine g_f h hc (fun z hz => ?_)
  unfold w_setPrice at hf
  rw [lc_setPrice, hz] at hf
  have hf : z = -100000000 := hf
  rw [hf]
  decide
theorem j_sv_setPrice {c : Nat} {σ : ft_Sg} (x1 : Int32) (x2 : Int32) (h : ft_Jd c σ) : ft_zv σ (w_setPrice σ x1 x2).2 := by
  rw [w2_setPrice, lc_setPrice]
  exact g_sv h 2 x1 x2 0
theorem lc_grantPermit (σ : ft_Sg) (x1 : Int32) (x2 : Int32) : (l_grantPermit σ x1 x2) = lchg σ 3 x1 x2 0 := by
  unfold l_grantPermit s_X7_grantPermit lchg
  generalize s_X7_change σ.1 σ.2.1 σ.2.2.1 3 x1 x2 0 = e
  obtain ⟨e1, e2⟩ := e
  cases e1 <;> rfl
theorem w2_grantPermit (σ : ft_Sg) (x1 : Int32) (x2 : Int32) : (w_grantPermit σ x1 x2).2 = (l_grantPermit σ x1 x2).2 := by
  unfold w_grantPermit
  split <;> rfl
theorem j_ex_grantPermit {c : Nat} {σ : ft_Sg} (x1 : Int32) (x2 : Int32) (h : ft_Jd c σ) (hc : c ≤ 1000) : ∀ E, (l_grantPermit σ x1 x2).1 = .error E → E ∈ ["java/lang/IndexOutOfBoundsException", "java/lang/IllegalArgumentException", "java/lang/IllegalStateException"] := by
  intro E hE
  rw [lc_grantPermit] at hE
  obtain ⟨z, hz, rfl⟩ := g_ex h hc hE
  exact (show ∀ z ∈ ft_cd 3, ft_xn z ∈ ["java/lang/IndexOutOfBoundsException", "java/lang/IllegalArgumentException", "java/lang/IllegalStateException"] by decide) z hz
theorem j_k_grantPermit {c : Nat} {σ : ft_Sg} (x1 : Int32) (x2 : Int32) (h : ft_Jd c σ) (hc : c + 0 ≤ 1000) : ft_Jd (c + 0) (w_grantPermit σ x1 x2).2 := by
  rw [w2_grantPermit, lc_grantPermit]
  exact g_k h (by omega) 3 x1 x2 0 (Or.inl (by omega))
theorem j_f_grantPermit {c : Nat} {σ : ft_Sg} (x1 : Int32) (x2 : Int32) (h : ft_Jd c σ) (hc : c ≤ 1000) (hf : (w_grantPermit σ x1 x2).1 = -100000000) : (w_grantPermit σ x1 x2).2.1 0 = σ.1 0 := by
  rw [w2_grantPermit, lc_grantPermit]
  refine g_f h hc (fun z hz => ?_)
  unfold w_grantPermit at hf
  rw [lc_grantPermit, hz] at hf
  have hf : z = -100000000 := hf
  rw [hf]
  decide
theorem j_sv_grantPermit {c : Nat} {σ : ft_Sg} (x1 : Int32) (x2 : Int32) (h : ft_Jd c σ) : ft_zv σ (w_grantPermit σ x1 x2).2 := by
  rw [w2_grantPermit, lc_grantPermit]
  exact g_sv h 3 x1 x2 0
theorem lc_revokePermit (σ : ft_Sg) (x1 : Int32) (x2 : Int32) : (l_revokePermit σ x1 x2).2 = (lchg σ 4 x1 x2 0).2 ∧ (∀ E, (l_revokePermit σ x1 x2).1 = .error E → (lchg σ 4 x1 x2 0).1 = .error E) ∧ (∀ z, (l_revokePermit σ x1 x2).1 = .ok z → z = 0 ∨ z = 1) := by
  unfold l_revokePermit s_X7_revokePermit lchg
  generalize s_X7_change σ.1 σ.2.1 σ.2.2.1 4 x1 x2 0 = e
  obtain ⟨e1, e2⟩ := e
  cases e1 with
  | ok z =>
    by_cases h : z ≤ 0
    · have e : (ft_xt (Except.ok z, e2) (fun z_7 u_7 => if z_7 ≤ 0 then ((.ok 0, (u_7.1, u_7.2.1, u_7.2.2))) else ((.ok 1, (u_7.1, u_7.2.1, u_7.2.2)))) : Except String Int32 × ft_St) = (.ok 0, e2) := by
        show (if z ≤ 0 then _ else _) = _
        rw [if_pos h]
      rw [e]
      exact ⟨rfl, fun E hE => (by cases hE), fun z9 h9 => Or.inl (Except.ok.inj h9).symm⟩
    · have e : (ft_xt (Except.ok z, e2) (fun z_7 u_7 => if z_7 ≤ 0 then ((.ok 0, (u_7.1, u_7.2.1, u_7.2.2))) else ((.ok 1, (u_7.1, u_7.2.1, u_7.2.2)))) : Except String Int32 × ft_St) = (.ok 1, e2) := by
        show (if z ≤ 0 then _ else _) = _
        rw [if_neg h]
      rw [e]
      exact ⟨rfl, fun E hE => (by cases hE), fun z9 h9 => Or.inr (Except.ok.inj h9).symm⟩
  | error E => exact ⟨rfl, fun _ h => h, fun z h => by cases h⟩
theorem w2_revokePermit (σ : ft_Sg) (x1 : Int32) (x2 : Int32) : (w_revokePermit σ x1 x2).2 = (l_revokePermit σ x1 x2).2 := by
  unfold w_revokePermit
  split <;> rfl
theorem j_ex_revokePermit {c : Nat} {σ : ft_Sg} (x1 : Int32) (x2 : Int32) (h : ft_Jd c σ) (hc : c ≤ 1000) : ∀ E, (l_revokePermit σ x1 x2).1 = .error E → E ∈ ["java/lang/IndexOutOfBoundsException", "java/lang/IllegalArgumentException", "java/lang/IllegalStateException"] := by
  intro E hE
  obtain ⟨z, hz, rfl⟩ := g_ex h hc ((lc_revokePermit σ x1 x2).2.1 E hE)
  exact (show ∀ z ∈ ft_cd 4, ft_xn z ∈ ["java/lang/IndexOutOfBoundsException", "java/lang/IllegalArgumentException", "java/lang/IllegalStateException"] by decide) z hz
theorem j_k_revokePermit {c : Nat} {σ : ft_Sg} (x1 : Int32) (x2 : Int32) (h : ft_Jd c σ) (hc : c + 0 ≤ 1000) : ft_Jd (c + 0) (w_revokePermit σ x1 x2).2 := by
  rw [w2_revokePermit, (lc_revokePermit σ x1 x2).1]
  exact g_k h hc 4 x1 x2 0 (Or.inl (by omega))
theorem j_f_revokePermit {c : Nat} {σ : ft_Sg} (x1 : Int32) (x2 : Int32) (h : ft_Jd c σ) (hc : c ≤ 1000) (hf : (w_revokePermit σ x1 x2).1 = -100000000) : (w_revokePermit σ x1 x2).2.1 0 = σ.1 0 := by
  rw [w2_revokePermit, (lc_revokePermit σ x1 x2).1]
  refine g_f h hc (fun z hz => ?_)
  exfalso
  unfold w_revokePermit at hf
  cases hl : (l_revokePermit σ x1 x2).1 with
  | ok y =>
    rw [hl] at hf
    have hf : (if y = 0 then (0 : Int32) else 1) = -100000000 := hf
    split at hf <;> exact absurd hf (by decide)
  | error E =>
    have := (lc_revokePermit σ x1 x2).2.1 E hl
    rw [this] at hz
    cases hz
theorem j_sv_revokePermit {c : Nat} {σ : ft_Sg} (x1 : Int32) (x2 : Int32) (h : ft_Jd c σ) : ft_zv σ (w_revokePermit σ x1 x2).2 := by
  rw [w2_revokePermit, (lc_revokePermit σ x1 x2).1]
  exact g_sv h 4 x1 x2 0
theorem lc_assign (σ : ft_Sg) (x1 : Int32) (x2 : Int32) (x3 : Int32) : (l_assign σ x1 x2 x3) = lchg σ 5 x1 x2 x3 := by
  unfold l_assign s_X7_assign lchg
  generalize s_X7_change σ.1 σ.2.1 σ.2.2.1 5 x1 x2 x3 = e
  obtain ⟨e1, e2⟩ := e
  cases e1 <;> rfl
theorem w2_assign (σ : ft_Sg) (x1 : Int32) (x2 : Int32) (x3 : Int32) : (w_assign σ x1 x2 x3).2 = (l_assign σ x1 x2 x3).2 := by
  unfold w_assign
  split <;> rfl
theorem j_ex_assign {c : Nat} {σ : ft_Sg} (x1 : Int32) (x2 : Int32) (x3 : Int32) (h : ft_Jd c σ) (hc : c ≤ 1000) : ∀ E, (l_assign σ x1 x2 x3).1 = .error E → E ∈ ["java/lang/IndexOutOfBoundsException", "java/lang/IllegalArgumentException", "java/lang/UnsupportedOperationException", "java/lang/IllegalStateException"] := by
  intro E hE
  rw [lc_assign] at hE
  obtain ⟨z, hz, rfl⟩ := g_ex h hc hE
  exact (show ∀ z ∈ ft_cd 5, ft_xn z ∈ ["java/lang/IndexOutOfBoundsException", "java/lang/IllegalArgumentException", "java/lang/UnsupportedOperationException", "java/lang/IllegalStateException"] by decide) z hz
theorem j_k_assign {c : Nat} {σ : ft_Sg} (x1 : Int32) (x2 : Int32) (x3 : Int32) (h : ft_Jd c σ) (hc : c + 0 ≤ 1000) : ft_Jd (c + 0) (w_assign σ x1 x2 x3).2 := by
  rw [w2_assign, lc_assign]
  exact g_k h (by omega) 5 x1 x2 x3 (Or.inl (by omega))
theorem j_f_assign {c : Nat} {σ : ft_Sg} (x1 : Int32) (x2 : Int32) (x3 : Int32) (h : ft_Jd c σ) (hc : c ≤ 1000) (hf : (w_assign σ x1 x2 x3).1 = -100000000) : (w_assign σ x1 x2 x3).2.1 0 = σ.1 0 := by
  rw [w2_assign, lc_assign]
  refine g_f h hc (fun z hz => ?_)
  unfold w_assign at hf
  rw [lc_assign, hz] at hf
  have hf : z = -100000000 := hf
  rw [hf]
  decide
theorem j_sv_assign {c : Nat} {σ : ft_Sg} (x1 : Int32) (x2 : Int32) (x3 : Int32) (h : ft_Jd c σ) : ft_zv σ (w_assign σ x1 x2 x3).2 := by
  rw [w2_assign, lc_assign]
  exact g_sv h 5 x1 x2 x3
theorem lc_release (σ : ft_Sg) (x1 : Int32) (x2 : Int32) : (l_release σ x1 x2) = lchg σ 6 x1 x2 0 := by
  unfold l_release s_X7_release lchg
  generalize s_X7_change σ.1 σ.2.1 σ.2.2.1 6 x1 x2 0 = e
  obtain ⟨e1, e2⟩ := e
  cases e1 <;> rfl
theorem w2_release (σ : ft_Sg) (x1 : Int32) (x2 : Int32) : (w_release σ x1 x2).2 = (l_release σ x1 x2).2 := by
  unfold w_release
  split <;> rfl
theorem j_ex_release {c : Nat} {σ : ft_Sg} (x1 : Int32) (x2 : Int32) (h : ft_Jd c σ) (hc : c ≤ 1000) : ∀ E, (l_release σ x1 x2).1 = .error E → E ∈ ["java/lang/IndexOutOfBoundsException", "java/lang/IllegalArgumentException", "java/util/NoSuchElementException"] := by
  intro E hE
  rw [lc_release] at hE
  obtain ⟨z, hz, rfl⟩ := g_ex h hc hE
  exact (show ∀ z ∈ ft_cd 6, ft_xn z ∈ ["java/lang/IndexOutOfBoundsException", "java/lang/IllegalArgumentException", "java/util/NoSuchElementException"] by decide) z hz
theorem j_k_release {c : Nat} {σ : ft_Sg} (x1 : Int32) (x2 : Int32) (h : ft_Jd c σ) (hc : c + 0 ≤ 1000) : ft_Jd (c + 0) (w_release σ x1 x2).2 := by
  rw [w2_release, lc_release]
  exact g_k h (by omega) 6 x1 x2 0 (Or.inl (by omega))
theorem j_f_release {c : Nat} {σ : ft_Sg} (x1 : Int32) (x2 : Int32) (h : ft_Jd c σ) (hc : c ≤ 1000) (hf : (w_release σ x1 x2).1 = -100000000) : (w_release σ x1 x2).2.1 0 = σ.1 0 := by
  rw [w2_release, lc_release]
  refine g_f h hc (fun z hz => ?_)
  unfold w_release at hf
  rw [lc_release, hz] at hf
  have hf : z = -100000000 := hf
  rw [hf]
  decide
theorem j_sv_release {c : Nat} {σ : ft_Sg} (x1 : Int32) (x2 : Int32) (h : ft_Jd c σ) : ft_zv σ (w_release σ x1 x2).2 := by
  rw [w2_release, lc_release]
  exact g_sv h 6 x1 x2 0
theorem lc_setWeather (σ : ft_Sg) (x1 : Int32) : (l_setWeather σ x1) = lchg σ 7 x1 0 0 := by
  unfold l_setWeather s_X7_setWeather lchg
  generalize s_X7_change σ.1 σ.2.1 σ.2.2.1 7 x1 0 0 = e
  obtain ⟨e1, e2⟩ := e
  cases e1 <;> rfl
theorem w2_setWeather (σ : ft_Sg) (x1 : Int32) : (w_setWeather σ x1).2 = (l_setWeather σ x1).2 := by
  unfold w_setWeather
  split <;> rfl
theorem j_ex_setWeather {c : Nat} {σ : ft_Sg} (x1 : Int32) (h : ft_Jd c σ) (hc : c ≤ 1000) : ∀ E, (l_setWeather σ x1).1 = .error E → E ∈ ["java/lang/IllegalArgumentException"] := by
  intro E hE
  rw [lc_setWeather] at hE
  obtain ⟨z, hz, rfl⟩ := g_ex h hc hE
  exact (show ∀ z ∈ ft_cd 7, ft_xn z ∈ ["java/lang/IllegalArgumentException"] by decide) z hz
theorem j_k_setWeather {c : Nat} {σ : ft_Sg} (x1 : Int32) (h : ft_Jd c σ) (hc : c + 0 ≤ 1000) : ft_Jd (c + 0) (w_setWeather σ x1).2 := by
  rw [w2_setWeather, lc_setWeather]
  exact g_k h (by omega) 7 x1 0 0 (Or.inl (by omega))
theorem j_f_setWeather {c : Nat} {σ : ft_Sg} (x1 : Int32) (h : ft_Jd c σ) (hc : c ≤ 1000) (hf : (w_setWeather σ x1).1 = -100000000) : (w_setWeather σ x1).2.1 0 = σ.1 0 := by
  rw [w2_setWeather, lc_setWeather]
  refine g_f h hc (fun z hz => ?_)
  unfold w_setWeather at hf
  rw [lc_setWeather, hz] at hf
  have hf : z = -100000000 := hf
  rw [hf]
  decide
theorem j_sv_setWeather {c : Nat} {σ : ft_Sg} (x1 : Int32) (h : ft_Jd c σ) : ft_zv σ (w_setWeather σ x1).2 := by
  rw [w2_setWeather, lc_setWeather]
  exact g_sv h 7 x1 0 0
theorem lc_advance (σ : ft_Sg) (x1 : Int32) : (l_advance σ x1) = lchg σ 8 x1 0 0 := by
  unfold l_advance s_X7_advance lchg
  generalize s_X7_change σ.1 σ.2.1 σ.2.2.1 8 x1 0 0 = e
  obtain ⟨e1, e2⟩ := e
  cases e1 <;> rfl
theorem w2_advance (σ : ft_Sg) (x1 : Int32) : (w_advance σ x1).2 = (l_advance σ x1).2 := by
  unfold w_advance
  split <;> rfl
theorem j_ex_advance {c : Nat} {σ : ft_Sg} (x1 : Int32) (h : ft_Jd c σ) (hc : c ≤ 1000) : ∀ E, (l_advance σ x1).1 = .error E → E ∈ ["java/lang/IllegalArgumentException"] := by
  intro E hE
  rw [lc_advance] at hE
  obtain ⟨z, hz, rfl⟩ := g_ex h hc hE
  exact (show ∀ z ∈ ft_cd 8, ft_xn z ∈ ["java/lang/IllegalArgumentException"] by decide) z hz
theorem j_k_advance {c : Nat} {σ : ft_Sg} (x1 : Int32) (h : ft_Jd c σ) (hc : c + 1 ≤ 1000) : ft_Jd (c + 1) (w_advance σ x1).2 := by
  rw [w2_advance, lc_advance]
  exact g_k h (by omega) 8 x1 0 0 (Or.inr (Nat.le_refl 1))
theorem j_f_advance {c : Nat} {σ : ft_Sg} (x1 : Int32) (h : ft_Jd c σ) (hc : c ≤ 1000) (hf : (w_advance σ x1).1 = -100000000) : (w_advance σ x1).2.1 0 = σ.1 0 := by
  rw [w2_advance, lc_advance]
  refine g_f h hc (fun z hz => ?_)
  unfold w_advance at hf
  rw [lc_advance, hz] at hf
  have hf : z = -100000000 := hf
  rw [hf]
  decide
theorem j_sv_advance {c : Nat} {σ : ft_Sg} (x1 : Int32) (h : ft_Jd c σ) : ft_zv σ (w_advance σ x1).2 := by
  rw [w2_advance, lc_advance]
  exact g_sv h 8 x1 0 0
