/-! runScript -/
def rs_I (q : Nat → Nat → Int32) (B i : Nat) (q' : Nat → Nat → Int32) : Prop := (∀ k, k ≠ 1 → q' k = q k) ∧ ∃ X, q' 1 = pu_r X ∧ pu_I X ∧ pu_T X ∧ 60 * pA X 1 + pA X 2 ≤ B + 60 * i
theorem rs_I.mono {q : Nat → Nat → Int32} {B i j : Nat} {q' : Nat → Nat → Int32} (h : rs_I q B i q') (hj : i ≤ j) : rs_I q B j q' := by
  obtain ⟨h1, X, h2, h3, h4, h5⟩ := h
  exact ⟨h1, X, h2, h3, h4, by omega⟩
theorem rs_L {q0 q : Nat → Nat → Int32} {pm : Nat → Nat} {o : Nat → Int32} {g : ft_G} {o1 : Nat → Int32} {g1 : ft_G} {B : Nat} (hB : B ≤ 900000) (K : Int32 → (Nat → Nat → Int32) → (Except String Int32 × ft_Sg)) : ∀ (n i : Nat) (q' : Nat → Nat → Int32), i ≤ 15 → rs_I q B i q' → ∃ (i' : Nat) (q'' : Nat → Nat → Int32), i' ≤ 15 ∧ rs_I q B 15 q'' ∧ (s_X7_runScript_L57 q0 pm o g o1 g1 K n (nI i) q' = K (nI i') q'' ∨ s_X7_runScript_L57 q0 pm o g o1 g1 K n (nI i) q' = (.error "java/lang/IllegalStateException", (q'', pm, va_up o1 2 (nI i'), g1))) := by
  intro n
  induction n with
  | zero => intro i q' hi h; exact ⟨i, q', hi, h.mono hi, Or.inl rfl⟩
  | succ n ih =>
    intro i q' hi h
    rw [s_X7_runScript_L57]
    by_cases h1 : o1 4 ≤ nI i
    · rw [if_pos h1]; exact ⟨i, q', hi, h.mono hi, Or.inl rfl⟩
    · rw [if_neg h1]
      by_cases h2 : (15 : Int32) ≤ nI i
      · rw [if_pos h2]; exact ⟨i, q', hi, h.mono hi, Or.inl rfl⟩
      · rw [if_neg h2]
        have hlt : i < 15 := (nI_geI (a := 15) (by decide) (by omega)).mp h2
        obtain ⟨hk, X, x1, x2, x3, x4⟩ := h
        obtain ⟨z, Y, y1, y2, y3, -, y5, -, -⟩ := pu_carry x2 x3 (by omega) (g1.2.2.1 (tn (nI i))) ((g1.2.2.2 (tn (nI i))) (tn 0)) ((g1.2.2.2 (tn (nI i))) (tn 1)) ((g1.2.2.2 (tn (nI i))) (tn 2))
        rw [x1, y1]
        have hI : rs_I q B (i + 1) (va_up q' 1 (pu_r Y)) := ⟨fun k h => by rw [va_up_ne _ _ h]; exact hk k h, Y, va_up_self _ _ _, y2, y3, by omega⟩
        by_cases h3 : 0 ≤ z
        · rw [if_pos (show 0 ≤ (z, pu_r Y).1 from h3), nI_1]
          exact ih (i + 1) _ (by omega) hI
        · rw [if_neg (show ¬ 0 ≤ (z, pu_r Y).1 from h3)]
          exact ⟨i, _, hi, hI.mono (by omega), Or.inr rfl⟩
theorem oz_6 {o : Nat → Int32} {g : ft_G} : (∀ i, i ≠ 6 → i ≠ 8 → (ft_oz259 o g).1 i = o i) ∧ (ft_oz259 o g).1 6 = 0 ∧ (ft_oz259 o g).2.2 = g.2 := by
  refine ⟨fun i h6 h8 => ?_, ?_, rfl⟩
  · show va_up (va_up o 8 (s_J4_setLength_d00df_0 (o 8, o 6, g.1.1, g.1.2) 0).1) 6 (s_J4_setLength_d00df_0 (o 8, o 6, g.1.1, g.1.2) 0).2.1 i = o i
    rw [va_up_ne _ _ h6, va_up_ne _ _ h8]
  · show va_up (va_up o 8 (s_J4_setLength_d00df_0 (o 8, o 6, g.1.1, g.1.2) 0).1) 6 (s_J4_setLength_d00df_0 (o 8, o 6, g.1.1, g.1.2) 0).2.1 6 = 0
    rw [va_up_self]
    unfold s_J4_setLength_d00df_0 s_J5_setLength_d00df_0
    split <;> rfl
theorem tot_L10 {o0 : Nat → Int32} {g0 : ft_G} (K : (Nat → Int32) → ft_G → (Int32 × ((Nat → Int32) × ft_G))) (hK : ∀ o g, (K o g).2.1 4 = o 4) : ∀ (n : Nat) (o : Nat → Int32) (g : ft_G) (j : Nat), j ≤ 15 → o 4 = nI j → ∃ j', j' ≤ 15 ∧ (s_X3_read_L10 o0 g0 K n o g).2.1 4 = nI j' := by
  intro n
  induction n with
  | zero => intro o g j hj ho; exact ⟨j, hj, (hK o g).trans ho⟩
  | succ n ih =>
    intro o g j hj ho
    rw [s_X3_read_L10]
    have e4 : (s_X3_readStep o g (tn (o 4))).2.1 4 = nI j := (ox_readStep (by omega)).trans ho
    generalize s_X3_readStep o g (tn (o 4)) = P at e4 ⊢
    have e5 : va_up P.2.1 4 (P.2.1 4 + 1) 4 = nI (j + 1) := by rw [va_up_self, e4, nI_1]
    generalize va_up P.2.1 4 (P.2.1 4 + 1) = B at e5 ⊢
    by_cases h1 : (15 : Int32) ≤ o 4
    · rw [if_pos h1]; exact ⟨j, hj, (hK o g).trans ho⟩
    · rw [if_neg h1]
      rw [ho] at h1
      have hlt : j < 15 := (nI_geI (a := 15) (by decide) (by omega)).mp h1
      have e6 : (s_X3_readSign B P.2.2 59).2 4 = nI (j + 1) := (ox_readSign (by omega)).trans e5
      split
      · exact ⟨j, hj, e4⟩
      · split
        · split
          · exact ⟨j + 1, by omega, e6⟩
          · exact ih _ _ (j + 1) (by omega) e6
        · exact ⟨j + 1, by omega, e5⟩
theorem tot_read {o : Nat → Int32} {g : ft_G} : ∃ j, j ≤ 15 ∧ (s_X3_read o g).2.1 4 = nI j := tot_L10 _ (by intro o g; rfl) _ _ _ 0 (by omega) ((va_up_self _ _ _).trans nI_0.symm)
/-- all that running a script does -/
theorem rs_ex {c : Nat} {σ : ft_Sg} (h : ft_Jd c σ) (hc : c ≤ 1000) : ∃ (o1 : Nat → Int32) (g1 : ft_G), (∀ i, i ≠ 4 → i ≠ 5 → i ≠ 6 → i ≠ 8 → o1 i = σ.2.2.1 i) ∧ o1 6 = 0 ∧ g1.2.1 = σ.2.2.2.2.1 ∧ ft_ok259 o1 g1 0 ∧ (∀ n, n < 15 → g1.2.2.1 n < 9) ∧ (∃ j, j ≤ 15 ∧ o1 4 = nI j) ∧
    (((s_X3_read σ.2.2.1 σ.2.2.2).1 = 0 ∧ l_runScript σ = (.error "java/lang/IllegalArgumentException", (σ.1, σ.2.1, va_up o1 1 (o1 5), g1))) ∨
     ((s_X3_read σ.2.2.1 σ.2.2.2).1 ≠ 0 ∧ ∃ r i, i ≤ 15 ∧ pRow (c + 1) r ∧ l_runScript σ = (.error "java/lang/IllegalStateException", (va_up σ.1 1 r, σ.2.1, va_up o1 2 (nI i), g1))) ∨
     ((s_X3_read σ.2.2.1 σ.2.2.2).1 ≠ 0 ∧ ∃ r z p' k o', pRow (c + 1) r ∧ k < 8 ∧ (∀ i, i < 8 → p' i < 8) ∧ o' 3 = nI (k + 1) ∧ (∀ i, i ≠ 3 → o' i = o1 i) ∧ z = o1 4 ∧ l_runScript σ = (.ok z, (va_up (va_up (va_up σ.1 1 r) (3 + p' k) (σ.1 0)) 0 r, p', o', g1)))) := by
  obtain ⟨hpm, hrow, ⟨n, hn, ho⟩, h9, h1, hg⟩ := h
  obtain ⟨X, x1, x2, x3, x4⟩ := hrow 0 (by omega)
  obtain ⟨R, hR⟩ : ∃ R, R = s_X3_read σ.2.2.1 σ.2.2.2 := ⟨_, rfl⟩
  have r1 : ∀ i, i ≠ 4 → i ≠ 5 → R.2.1 i = σ.2.2.1 i := fun i h4 h5 => by rw [hR]; exact ox_read h4 h5
  have r2 : R.2.2.1 = σ.2.2.2.1 ∧ R.2.2.2.1 = σ.2.2.2.2.1 := by rw [hR]; exact gx_read
  have r3 : ∀ n, n < 15 → R.2.2.2.2.1 n < 9 := by rw [hR]; exact g9_read hg
  have r5 : ∃ j, j ≤ 15 ∧ R.2.1 4 = nI j := by rw [hR]; exact tot_read
  have r4 : ft_ok259 R.2.1 R.2.2 60 := by rw [hR]; exact ft_ok259_read h9
  obtain ⟨z1, z2, z3⟩ := oz_6 (o := R.2.1) (g := R.2.2)
  have z4 := r4.z
  have eR : l_runScript σ = ft_lt ((ft_oz259 R.2.1 R.2.2).1) ((ft_oz259 R.2.1 R.2.2).2) (fun o1 g1 => if R.1 = 0 then ((.error "java/lang/IllegalArgumentException", (σ.1, σ.2.1, va_up o1 1 (o1 5), g1))) else (s_X7_runScript_L57 σ.1 σ.2.1 σ.2.2.1 σ.2.2.2 o1 g1 (fun y2_57 q_57 => (.ok (((s_X7_takeDraft q_57 σ.2.1 o1).2.2) 4), ((s_X7_takeDraft q_57 σ.2.1 o1).1, (s_X7_takeDraft q_57 σ.2.1 o1).2.1, (s_X7_takeDraft q_57 σ.2.1 o1).2.2, g1))) (tn (o1 4) + 1) 0 (va_up σ.1 1 (s_X4_copyFrom (σ.1 1) (σ.1 0))))) := by
    unfold l_runScript s_X7_runScript
    rw [← hR]
    rfl
  rw [← hR]
  clear hR
  generalize (ft_oz259 R.2.1 R.2.2).1 = o1 at z1 z2 z4 eR
  generalize (ft_oz259 R.2.1 R.2.2).2 = g1 at z3 z4 eR
  refine ⟨o1, g1, fun i h4 h5 h6 h8 => (z1 i h6 h8).trans (r1 i h4 h5), z2, by rw [z3]; exact r2.2, z4, fun n hn => by rw [z3]; exact r3 n hn, by rw [z1 4 (by omega) (by omega)]; exact r5, ?_⟩
  rw [eR]
  show (_ ∧ (if R.1 = 0 then _ else _) = _) ∨ (_ ∧ ∃ r i, _ ∧ _ ∧ (if R.1 = 0 then _ else _) = _) ∨ (_ ∧ ∃ r z p' k o', _ ∧ _ ∧ _ ∧ _ ∧ _ ∧ _ ∧ (if R.1 = 0 then _ else _) = _)
  by_cases hz : R.1 = 0
  · exact Or.inl ⟨hz, if_pos hz⟩
  · refine Or.inr ?_
    simp only [if_neg hz]
    have hI : rs_I (va_up σ.1 1 (σ.1 0)) (900 * c) 0 (va_up σ.1 1 (s_X4_copyFrom (σ.1 1) (σ.1 0))) := ⟨fun k hk => rfl, X, (va_up_self _ _ _).trans x1, x2, x3, by omega⟩
    obtain ⟨i', q'', hi', ⟨j1, Y, y1, y2, y3, y4⟩, hh⟩ := rs_L (q0 := σ.1) (q := va_up σ.1 1 (σ.1 0)) (pm := σ.2.1) (o := σ.2.2.1) (g := σ.2.2.2) (o1 := o1) (g1 := g1) (B := 900 * c) (by omega) (fun y2_57 q_57 => (.ok (((s_X7_takeDraft q_57 σ.2.1 o1).2.2) 4), ((s_X7_takeDraft q_57 σ.2.1 o1).1, (s_X7_takeDraft q_57 σ.2.1 o1).2.1, (s_X7_takeDraft q_57 σ.2.1 o1).2.2, g1))) (tn (o1 4) + 1) 0 _ (by omega) hI
    rw [nI_0] at hh
    have eq2 : q'' = va_up σ.1 1 (pu_r Y) := by
      funext k
      by_cases hk : k = 1
      · subst hk; rw [y1, va_up_self]
      · rw [j1 k hk, va_up_ne _ _ hk, va_up_ne _ _ hk]
    have hr : pRow (c + 1) (pu_r Y) := ⟨Y, rfl, y2, y3, by omega⟩
    rcases hh with e | e
    · refine Or.inr ⟨hz, ?_⟩
      have ho1 : o1 3 = nI n := by rw [z1 3 (by omega) (by omega), r1 3 (by omega) (by omega)]; exact ho
      obtain ⟨p', k, o', t1, t2, t3, t4, t5⟩ := take_ex (q := q'') hpm hn ho1
      have e0 : q'' 0 = σ.1 0 := by rw [eq2, va_up_ne _ _ (by omega)]
      rw [e0, y1, eq2] at t1
      refine ⟨pu_r Y, o1 4, p', k, o', hr, t2, t3, t4, t5, rfl, ?_⟩
      rw [e, eq2, t1]
      show (Except.ok (o' 4), _) = _
      rw [t5 4 (by omega)]
    · refine Or.inl ⟨hz, pu_r Y, i', hi', hr, ?_⟩
      rw [e, eq2]
