/-! undo, restore, save, servedWithin over a whole state -/
theorem giveBack_or (q : Nat → Nat → Int32) (pm : Nat → Nat) (o : Nat → Int32) : s_X2_giveBack q pm o = (0, (q, pm, o)) ∨ ∃ v w, s_X2_giveBack q pm o = (1, (va_up q 0 v, pm, va_up o 3 w)) := by
  unfold s_X2_giveBack
  split
  · exact Or.inl rfl
  · split
    · exact Or.inr ⟨_, _, rfl⟩
    · exact Or.inl rfl
theorem w2_undo (σ : ft_Sg) : (w_undo σ).2 = (l_undo σ).2 := by
  unfold w_undo
  split <;> rfl
theorem undo_o (σ : ft_Sg) : (∀ i, i ≠ 3 → (l_undo σ).2.2.2.1 i = σ.2.2.1 i) ∧ (∀ i, i ≠ 0 → (l_undo σ).2.1 i = σ.1 i) ∧ (l_undo σ).2.2.1 = σ.2.1 ∧ (l_undo σ).2.2.2.2 = σ.2.2.2 := by
  unfold l_undo s_X7_undo
  rcases giveBack_or σ.1 σ.2.1 σ.2.2.1 with e | ⟨v, w, e⟩
  · rw [e, if_pos rfl]
    exact ⟨fun _ _ => rfl, fun _ _ => rfl, rfl, rfl⟩
  · rw [e, if_neg (show ¬ (1 : Int32) = 0 by decide)]
    exact ⟨fun i hi => va_up_ne _ _ hi, fun i hi => va_up_ne _ _ hi, rfl, rfl⟩
theorem j_e_undo {σ : ft_Sg} : (w_undo σ).2.2.2.1 6 = σ.2.2.1 6 := by
  rw [w2_undo]
  exact (undo_o σ).1 6 (by omega)
theorem j_sv_undo {c : Nat} {σ : ft_Sg} (_h : ft_Jd c σ) : ft_zv σ (w_undo σ).2 := by
  rw [w2_undo]
  exact ⟨(undo_o σ).2.1 2 (by omega), (undo_o σ).1 0 (by omega)⟩
theorem l_undo_eq {c : Nat} {σ : ft_Sg} (h : ft_Jd c σ) : (l_undo σ = (.error "java/util/NoSuchElementException", σ)) ∨ ∃ k, k < 8 ∧ l_undo σ = (.ok (nI k), (va_up σ.1 0 (σ.1 (3 + σ.2.1 k)), σ.2.1, va_up σ.2.2.1 3 (nI k), σ.2.2.2)) := by
  obtain ⟨-, -, ⟨n, hn, ho⟩, -⟩ := h
  by_cases h0 : n = 0
  · subst h0
    refine Or.inl ?_
    unfold l_undo
    rw [undo_none (by rw [ho]; exact nI_0)]
  · obtain ⟨k, rfl⟩ : ∃ k, n = k + 1 := ⟨n - 1, by omega⟩
    refine Or.inr ⟨k, by omega, ?_⟩
    unfold l_undo
    rw [undo_eq (by omega) ho]
theorem j_ex_undo {c : Nat} {σ : ft_Sg} (h : ft_Jd c σ) (_hc : c ≤ 1000) : ∀ E, (l_undo σ).1 = .error E → E ∈ ["java/util/NoSuchElementException"] := by
  intro E hE
  rcases l_undo_eq h with e | ⟨k, -, e⟩
  · rw [e] at hE
    rw [← Except.error.inj hE]
    decide
  · rw [e] at hE; cases hE
theorem j_k_undo {c : Nat} {σ : ft_Sg} (h : ft_Jd c σ) (_hc : c + 0 ≤ 1000) : ft_Jd (c + 0) (w_undo σ).2 := by
  rw [w2_undo]
  rcases l_undo_eq h with e | ⟨k, hk, e⟩
  · rw [e]; exact h
  · rw [e]
    obtain ⟨hpm, hrow, -, h9, h1, hg⟩ := h
    have := hpm k hk
    exact ⟨hpm, rows_up hrow (hrow _ (by omega)), ⟨k, by omega, va_up_self σ.2.2.1 3 (nI k)⟩, ok259_o h9 (va_up_ne σ.2.2.1 (nI k) (show 6 ≠ 3 by omega)), ok261_o h1 (va_up_ne σ.2.2.1 (nI k) (show 7 ≠ 3 by omega)), hg⟩
theorem j_f_undo {c : Nat} {σ : ft_Sg} (h : ft_Jd c σ) (_hc : c ≤ 1000) (hf : (w_undo σ).1 = -100000000) : (w_undo σ).2.1 0 = σ.1 0 := by
  rw [w2_undo]
  rcases l_undo_eq h with e | ⟨k, hk, e⟩
  · rw [e]
  · exfalso
    unfold w_undo at hf
    rw [e] at hf
    have hf : nI k = -100000000 := hf
    have := nI_pos (n := k) (by omega)
    rw [hf] at this
    exact this (by decide)
theorem w2_restore (σ : ft_Sg) : (w_restore σ).2 = (l_restore σ).2 := by
  unfold w_restore
  split <;> rfl
theorem l_restore_eq (σ : ft_Sg) : (l_restore σ = (.error "java/lang/IllegalStateException", σ)) ∨ l_restore σ = (.ok (σ.1 2 0), (va_up σ.1 0 (σ.1 2), σ.2.1, va_up σ.2.2.1 3 0, σ.2.2.2)) := by
  unfold l_restore s_X7_restore
  by_cases h : σ.2.2.1 0 = 0
  · rw [if_pos h]; exact Or.inl rfl
  · rw [if_neg h]
    refine Or.inr ?_
    show (Except.ok ((va_up σ.1 0 (σ.1 2)) 0 0), _) = _
    rw [va_up_self]
    rfl
theorem j_ex_restore {c : Nat} {σ : ft_Sg} (_h : ft_Jd c σ) (_hc : c ≤ 1000) : ∀ E, (l_restore σ).1 = .error E → E ∈ ["java/lang/IllegalStateException"] := by
  intro E hE
  rcases l_restore_eq σ with e | e
  · rw [e] at hE
    rw [← Except.error.inj hE]
    decide
  · rw [e] at hE; cases hE
theorem j_k_restore {c : Nat} {σ : ft_Sg} (h : ft_Jd c σ) (_hc : c + 0 ≤ 1000) : ft_Jd (c + 0) (w_restore σ).2 := by
  rw [w2_restore]
  rcases l_restore_eq σ with e | e
  · rw [e]; exact h
  · rw [e]
    obtain ⟨hpm, hrow, -, h9, h1, hg⟩ := h
    exact ⟨hpm, rows_up hrow (hrow 2 (by omega)), ⟨0, by omega, (va_up_self σ.2.2.1 3 0).trans nI_0.symm⟩, ok259_o h9 (va_up_ne σ.2.2.1 0 (show 6 ≠ 3 by omega)), ok261_o h1 (va_up_ne σ.2.2.1 0 (show 7 ≠ 3 by omega)), hg⟩
theorem j_f_restore {c : Nat} {σ : ft_Sg} (h : ft_Jd c σ) (_hc : c ≤ 1000) (hf : (w_restore σ).1 = -100000000) : (w_restore σ).2.1 0 = σ.1 0 := by
  rw [w2_restore]
  rcases l_restore_eq σ with e | e
  · rw [e]
  · exfalso
    unfold w_restore at hf
    rw [e] at hf
    have hf : σ.1 2 0 = -100000000 := hf
    obtain ⟨X, x1, x2, -⟩ := h.2.1 2 (by omega)
    rw [x1, pu_rA (by omega)] at hf
    have h6 := x2.1.1
    have := nI_pos (n := pA X 0) (by omega)
    rw [hf] at this
    exact this (by decide)
theorem j_rs {c : Nat} {σ : ft_Sg} {r : Nat → Int32} (_h : ft_Jd c σ) (h2 : σ.1 2 = r) (h1 : σ.2.2.1 0 = 1) : (w_restore σ).1 = l_truckCount (ft_nr r) ∧ (w_restore σ).2.1 0 = r ∧ (w_undo (w_restore σ).2).1 = -100000000 := by
  have e : l_restore σ = (.ok (σ.1 2 0), (va_up σ.1 0 (σ.1 2), σ.2.1, va_up σ.2.2.1 3 0, σ.2.2.2)) := by
    rcases l_restore_eq σ with e | e
    · exfalso
      unfold l_restore s_X7_restore at e
      rw [if_neg (by rw [h1]; decide)] at e
      have := congrArg Prod.fst e
      cases this
    · exact e
  rw [w2_restore]
  unfold w_restore
  rw [e]
  refine ⟨by rw [← h2]; rfl, (va_up_self σ.1 0 (σ.1 2)).trans h2, ?_⟩
  unfold w_undo
  have eu : l_undo (va_up σ.1 0 (σ.1 2), σ.2.1, va_up σ.2.2.1 3 0, σ.2.2.2) = (.error "java/util/NoSuchElementException", (va_up σ.1 0 (σ.1 2), σ.2.1, va_up σ.2.2.1 3 0, σ.2.2.2)) := by
    unfold l_undo
    show ((s_X7_undo (va_up σ.1 0 (σ.1 2)) σ.2.1 (va_up σ.2.2.1 3 0)).1, _) = _
    rw [undo_none (va_up_self _ _ _)]
  rw [eu]
theorem j_k_save {c : Nat} {σ : ft_Sg} (h : ft_Jd c σ) (_hc : c + 0 ≤ 1000) : ft_Jd (c + 0) (l_save σ).2 := by
  obtain ⟨hpm, hrow, ⟨n, hn, ho⟩, h9, h1, hg⟩ := h
  exact ⟨hpm, rows_up hrow (hrow 0 (by omega)), ⟨n, hn, (va_up_ne σ.2.2.1 1 (show 3 ≠ 0 by omega)).trans ho⟩, ok259_o h9 (va_up_ne σ.2.2.1 1 (show 6 ≠ 0 by omega)), ok261_o h1 (va_up_ne σ.2.2.1 1 (show 7 ≠ 0 by omega)), hg⟩
theorem j_r_save {σ : ft_Sg} : (l_save σ).2.1 0 = σ.1 0 := va_up_ne σ.1 (σ.1 0) (show 0 ≠ 2 by omega)
theorem j_sa {c : Nat} {σ : ft_Sg} (_h : ft_Jd c σ) (_hc : c ≤ 1000) : (l_save σ).1 = l_truckCount (ft_nr (σ.1 0)) ∧ (l_save σ).2.1 2 = σ.1 0 ∧ (l_save σ).2.2.2.1 0 = 1 ∧ (l_save σ).2.2.2.1 6 = σ.2.2.1 6 := by
  refine ⟨?_, va_up_self σ.1 2 (σ.1 0), va_up_self σ.2.2.1 0 1, va_up_ne σ.2.2.1 1 (show 6 ≠ 0 by omega)⟩
  show (va_up σ.1 2 (σ.1 0)) 0 0 = _
  rw [va_up_ne _ _ (by omega)]
  rfl
theorem l_servedWithin_eq (σ : ft_Sg) (x : Int32) : (l_servedWithin σ x = (.error "java/lang/IllegalArgumentException", σ)) ∨ (¬ x < 0 ∧ x ≤ 60 ∧ l_servedWithin σ x = (.ok (s_X4_passMinutes (σ.1 0) x).1, (va_up σ.1 1 (s_X4_passMinutes (σ.1 0) x).2, σ.2.1, σ.2.2.1, σ.2.2.2))) := by
  unfold l_servedWithin s_X7_servedWithin
  by_cases h : x < 0
  · rw [if_pos h]; exact Or.inl rfl
  · rw [if_neg h]
    by_cases h2 : x ≤ 60
    · rw [if_pos h2]
      refine Or.inr ⟨h, h2, ?_⟩
      have e : (va_up σ.1 1 (s_X4_copyFrom (σ.1 1) (σ.1 0))) 1 = σ.1 0 := va_up_self _ _ _
      rw [e, va_up_up]
    · rw [if_neg h2]; exact Or.inl rfl
theorem j_r_servedWithin {σ : ft_Sg} (x : Int32) : (l_servedWithin σ x).2.1 0 = σ.1 0 := by
  rcases l_servedWithin_eq σ x with e | ⟨-, -, e⟩
  · rw [e]
  · rw [e]; exact va_up_ne σ.1 (s_X4_passMinutes (σ.1 0) x).2 (show 0 ≠ 1 by omega)
theorem j_sv_servedWithin {σ : ft_Sg} (x : Int32) : ft_zv σ (l_servedWithin σ x).2 := by
  rcases l_servedWithin_eq σ x with e | ⟨-, -, e⟩
  · rw [e]; exact ft_zv.rf
  · rw [e]; exact ⟨va_up_ne σ.1 (s_X4_passMinutes (σ.1 0) x).2 (show 2 ≠ 1 by omega), rfl⟩
theorem pass_row {c : Nat} {r : Nat → Int32} (h : pRow c r) (hc : c ≤ 1000) {x : Int32} (h0 : ¬ x < 0) (h60 : x ≤ 60) : pRow (c + 1) (s_X4_passMinutes r x).2 ∧ 0 ≤ (s_X4_passMinutes r x).1 := by
  obtain ⟨X, rfl, x2, x3, x4⟩ := h
  obtain ⟨y, hy, rfl⟩ := nI_of2 (x := x) (M := 60) (n := 60) rfl h0 h60
  obtain ⟨Y, y1, y2, y3, y4, y5, -⟩ := pu_pass (M := y) (by omega) x2 x3 (by omega)
  have e5 : pA X 5 ≤ pA Y 5 := by rw [x2.2.1.2.1, y2.2.1.2.1]; exact pu_s4mono (fun d hd => (y4.2.1 d hd).2)
  have e6 := y2.2.1.1
  have e7 := y3.2
  rw [y1]
  exact ⟨⟨Y, rfl, y2, y3, by omega⟩, by show 0 ≤ nI (pA Y 5) - nI (pA X 5); rw [pk_sub e5]; exact nI_pos' (by omega)⟩
theorem j_k_servedWithin {c : Nat} {σ : ft_Sg} (x : Int32) (h : ft_Jd c σ) (hc : c + 1 ≤ 1000) : ft_Jd (c + 1) (l_servedWithin σ x).2 := by
  rcases l_servedWithin_eq σ x with e | ⟨h0, h60, e⟩
  · rw [e]; exact Jd_mono h (by omega)
  · rw [e]
    obtain ⟨hpm, hrow, hk, h9, h1, hg⟩ := h
    exact ⟨hpm, rows_up (fun i hi => (hrow i hi).mono (by omega)) (pass_row (hrow 0 (by omega)) (by omega) h0 h60).1, hk, h9, h1, hg⟩
theorem j_m {m : Int32} (h : 1 ≤ m ∧ m ≤ 60) : ¬ m < 0 ∧ ¬ m < 1 ∧ ¬ 60 < m := by
  obtain ⟨h1, h2⟩ := h
  rw [Int32.le_iff_toInt_le] at h1 h2
  have e0 : (0 : Int32).toInt = 0 := rfl
  have e1 : (1 : Int32).toInt = 1 := rfl
  refine ⟨fun h => ?_, fun h => ?_, fun h => ?_⟩
  · rw [Int32.lt_iff_toInt_lt] at h; omega
  · rw [Int32.lt_iff_toInt_lt] at h; omega
  · rw [Int32.lt_iff_toInt_lt] at h; omega
theorem j_sw {c : Nat} {σ : ft_Sg} {r : Nat → Int32} {m : Int32} (_h : ft_Jd c σ) (_hc : c + 1 ≤ 1000) (hm : 1 ≤ m ∧ m ≤ 60) (hq : σ.1 0 = r) : (l_servedWithin σ m).1 = .ok (ft_pz r m) := by
  rcases l_servedWithin_eq σ m with e | ⟨-, -, e⟩
  · exfalso
    unfold l_servedWithin s_X7_servedWithin at e
    rw [if_neg (j_m hm).1, if_pos hm.2] at e
    have := congrArg Prod.fst e
    cases this
  · rw [e, ← hq]; rfl
theorem j_ad {c : Nat} {σ : ft_Sg} {r : Nat → Int32} {m : Int32} (h : ft_Jd c σ) (hc : c + 1 ≤ 1000) (hm : 1 ≤ m ∧ m ≤ 60) (hq : σ.1 0 = r) : (w_advance σ m).1 = ft_pz r m ∧ (w_advance σ m).2.1 0 = ft_pr r m ∧ ft_U r (w_advance σ m).2 := by
  have hj := j_m hm
  have ecar : s_X4_carryOut 8 (σ.1 0) m 0 0 = s_X4_passMinutes (σ.1 0) m := by
    show s_X4_carryOut_8 (σ.1 0) m 0 0 = _
    unfold s_X4_carryOut_8 s_X4_isWait
    rw [if_neg hj.2.1, if_neg hj.2.2, if_neg (by decide)]
  have hpos := (pass_row (h.2.1 0 (by omega)) (show c ≤ 1000 by omega) hj.1 hm.2).2
  have hok : (lchg σ 8 m 0 0).1 = .ok (s_X4_passMinutes (σ.1 0) m).1 := by
    unfold lchg
    rw [change_eq, ecar, if_pos hpos]
  obtain ⟨g1, g2, -, -⟩ := g_U h (by omega) hok
  rw [ecar] at g2
  rw [w2_advance, lc_advance, ← hq]
  refine ⟨?_, g2, g1⟩
  unfold w_advance
  rw [lc_advance, hok]
  rfl
theorem j_uU {r : Nat → Int32} {σ u : ft_Sg} (h : ft_U r σ) (hm : ft_zm σ u) : ft_U r u := by
  obtain ⟨h1, h2, h3, h4, h5, h6⟩ := hm
  have e : (l_undo u).1 = (l_undo σ).1 ∧ (l_undo u).2.1 = (l_undo σ).2.1 := by
    unfold l_undo s_X7_undo s_X2_giveBack
    rw [h1, h2, h5]
    by_cases k1 : σ.2.2.1 3 < 1
    · rw [if_pos k1, if_pos k1, if_pos rfl, if_pos rfl]; exact ⟨rfl, rfl⟩
    · rw [if_neg k1, if_neg k1]
      by_cases k2 : σ.2.2.1 3 ≤ 8
      · rw [if_pos k2, if_pos k2, if_neg (show ¬ (1 : Int32) = 0 by decide), if_neg (show ¬ (1 : Int32) = 0 by decide)]
        refine ⟨?_, ?_⟩
        · show Except.ok ((va_up u.2.2.1 3 (σ.2.2.1 3 - 1)) 3) = Except.ok ((va_up σ.2.2.1 3 (σ.2.2.1 3 - 1)) 3)
          rw [va_up_self, va_up_self]
        · show va_up σ.1 0 (σ.1 (3 + σ.2.1 (tn ((va_up u.2.2.1 3 (σ.2.2.1 3 - 1)) 3)))) = va_up σ.1 0 (σ.1 (3 + σ.2.1 (tn ((va_up σ.2.2.1 3 (σ.2.2.1 3 - 1)) 3))))
          rw [va_up_self, va_up_self]
      · rw [if_neg k2, if_neg k2, if_pos rfl, if_pos rfl]; exact ⟨rfl, rfl⟩
  unfold ft_U at *
  rw [w2_undo] at *
  refine ⟨?_, by rw [e.2]; exact h.2⟩
  have h7 := h.1
  unfold w_undo at *
  rw [e.1]
  cases hl : (l_undo σ).1 with
  | ok z => rw [hl] at h7; exact h7
  | error E => rw [hl] at h7; exact h7
/-! a sign put into the script buffer -/
theorem w2_put (σ : ft_Sg) (x : Int32) : (w_put σ x).2 = (l_type σ x).2 := by
  unfold w_put
  split <;> rfl
theorem l_type_eq (σ : ft_Sg) (x : Int32) : (∃ E, l_type σ x = (.error E, σ) ∧ (32 ≤ x → x ≤ 126 → E = "java/lang/IllegalStateException")) ∨ (32 ≤ x ∧ x ≤ 126 ∧ σ.2.2.1 6 < 60 ∧ ∃ z, l_type σ x = (.ok z, (σ.1, σ.2.1, (ft_oc259 σ.2.2.1 σ.2.2.2 x).1, (ft_oc259 σ.2.2.1 σ.2.2.2 x).2))) := by
  unfold l_type s_X7_type
  by_cases h : x < 32
  · rw [if_pos h]
    exact Or.inl ⟨_, rfl, fun h1 _ => by exfalso; rw [Int32.lt_iff_toInt_lt] at h; rw [Int32.le_iff_toInt_le] at h1; omega⟩
  · rw [if_neg h]
    by_cases h2 : x ≤ 126
    · rw [if_pos h2]
      by_cases h3 : (s_J4_length_8abf5 (σ.2.2.1 8, σ.2.2.1 6, σ.2.2.2.1.1, σ.2.2.2.1.2)) < 60
      · rw [if_pos h3]
        exact Or.inr ⟨by rw [Int32.le_iff_toInt_le]; rw [Int32.lt_iff_toInt_lt] at h; omega, h2, h3, _, rfl⟩
      · rw [if_neg h3]
        exact Or.inl ⟨_, rfl, fun _ _ => rfl⟩
    · rw [if_neg h2]
      exact Or.inl ⟨_, rfl, fun _ h1 => absurd h1 h2⟩
theorem oc259_o (o : Nat → Int32) (g : ft_G) (x : Int32) : (∀ i, i ≠ 6 → i ≠ 8 → (ft_oc259 o g x).1 i = o i) ∧ (ft_oc259 o g x).2.2 = g.2 := ⟨fun i h6 h8 => by
  show va_up (va_up o 8 _) 6 _ i = o i
  rw [va_up_ne _ _ h6, va_up_ne _ _ h8], rfl⟩
theorem j_sp_put {σ : ft_Sg} (x : Int32) : ft_zp σ (w_put σ x).2 := by
  rw [w2_put]
  rcases l_type_eq σ x with ⟨E, e, -⟩ | ⟨-, -, -, z, e⟩
  · rw [e]; exact ft_zp.rf
  · rw [e]
    have := (oc259_o σ.2.2.1 σ.2.2.2 x).1
    exact ⟨rfl, rfl, this 0 (by omega) (by omega), this 2 (by omega) (by omega), this 3 (by omega) (by omega)⟩
theorem j_ex_put {c : Nat} {σ : ft_Sg} (x1 : Int32) (h1 : 32 ≤ x1) (h2 : x1 ≤ 126) (_h : ft_Jd c σ) (_hc : c ≤ 1000) : ∀ E, (l_type σ x1).1 = .error E → E ∈ ["java/lang/IllegalStateException"] := by
  intro E hE
  rcases l_type_eq σ x1 with ⟨E', e, he⟩ | ⟨-, -, -, z, e⟩
  · rw [e] at hE
    rw [← Except.error.inj hE, he h1 h2]
    decide
  · rw [e] at hE; cases hE
theorem j_k_put {c : Nat} {σ : ft_Sg} (x1 : Int32) (_h1 : 32 ≤ x1) (_h2 : x1 ≤ 126) (h : ft_Jd c σ) (_hc : c + 0 ≤ 1000) : ft_Jd (c + 0) (w_put σ x1).2 := by
  rw [w2_put]
  rcases l_type_eq σ x1 with ⟨E, e, -⟩ | ⟨-, -, h60, z, e⟩
  · rw [e]; exact h
  · rw [e]
    obtain ⟨hpm, hrow, ⟨n, hn, ho⟩, h9, h1, hg⟩ := h
    have ho2 := (oc259_o σ.2.2.1 σ.2.2.2 x1).1
    refine ⟨hpm, hrow, ⟨n, hn, (ho2 3 (by omega) (by omega)).trans ho⟩, ?_, ?_, fun n hn => ?_⟩
    · obtain ⟨e6, e7, -, -⟩ := h9.cnt (by omega)
      have hlt : tn (σ.2.2.1 6) < 60 := by
        rw [e6] at h60
        have := (nI_ltI (a := tn (σ.2.2.1 6)) (b := 60) (by omega) (by decide)).mp h60
        exact this
      have h59 : ft_ok259 σ.2.2.1 σ.2.2.2 59 := by
        obtain ⟨⟨c9, k1, k2, k3⟩, k4⟩ := h9
        refine ⟨⟨c9, ?_, k2, k3⟩, k4⟩
        rw [k2, ft_tnI (by omega)] at hlt
        omega
      exact h59.c (by omega)
    · unfold ft_ok261 at *
      rw [show (ft_oc259 σ.2.2.1 σ.2.2.2 x1).1 7 = σ.2.2.1 7 from ho2 7 (by omega) (by omega), show (ft_oc259 σ.2.2.1 σ.2.2.2 x1).2.2 = σ.2.2.2.2 from rfl]
      exact h1
    · exact hg n hn
