/-! what the reader of a text answers hangs on the text alone -/
def ft_RR (o o' : Nat → Int32) (g g' : ft_G) : Prop := o 4 = o' 4 ∧ o 5 = o' 5 ∧ o 6 = o' 6 ∧ ∀ i, i < tn (o' 6) → ft_ch (g.1.2 i) = ft_ch (g'.1.2 i)
theorem ft_tlt {x c : Int32} (h0 : ¬ x < 0) (h1 : ¬ c ≤ x) : tn x < tn c := by
  have e1 : tn x = x.toInt.toNat := rfl
  have e2 : tn c = c.toInt.toNat := rfl
  have e0 : (0 : Int32).toInt = 0 := rfl
  rw [Int32.lt_iff_toInt_lt] at h0
  rw [Int32.le_iff_toInt_le] at h1
  omega
theorem ft_RR.up5 {o o' : Nat → Int32} {g g' : ft_G} (h : ft_RR o o' g g') {v v' : Int32} (e : v = v') : ft_RR (va_up o 5 v) (va_up o' 5 v') g g' := by
  subst e
  refine ⟨?_, ?_, ?_, ?_⟩
  · rw [va_up_ne _ _ (by omega), va_up_ne _ _ (by omega)]; exact h.1
  · rw [va_up_self, va_up_self]
  · rw [va_up_ne _ _ (by omega), va_up_ne _ _ (by omega)]; exact h.2.2.1
  · rw [va_up_ne _ _ (by omega)]; exact h.2.2.2
theorem ft_RR.up4 {o o' : Nat → Int32} {g g' : ft_G} (h : ft_RR o o' g g') {v v' : Int32} (e : v = v') : ft_RR (va_up o 4 v) (va_up o' 4 v') g g' := by
  subst e
  refine ⟨?_, ?_, ?_, ?_⟩
  · rw [va_up_self, va_up_self]
  · rw [va_up_ne _ _ (by omega), va_up_ne _ _ (by omega)]; exact h.2.1
  · rw [va_up_ne _ _ (by omega), va_up_ne _ _ (by omega)]; exact h.2.2.1
  · rw [va_up_ne _ _ (by omega)]; exact h.2.2.2
theorem rr_char {o o' : Nat → Int32} {g g' : ft_G} (h : ft_RR o o' g g') {x : Int32} (h0 : ¬ x < 0) (h1 : ¬ o' 6 ≤ x) : s_J4_charAt_5068e (o 8, o 6, g.1.1, g.1.2) x = s_J4_charAt_5068e (o' 8, o' 6, g'.1.1, g'.1.2) x := h.2.2.2 _ (ft_tlt h0 h1)
theorem rr_hasAt {o o' : Nat → Int32} {g g' : ft_G} (h : ft_RR o o' g g') (x y : Int32) : s_X3_hasAt o g x y = s_X3_hasAt o' g' x y := by
  unfold s_X3_hasAt
  by_cases h0 : x < 0
  · rw [if_pos h0, if_pos h0]
  · rw [if_neg h0, if_neg h0]
    have e : s_J4_length_8abf5 (o 8, o 6, g.1.1, g.1.2) = s_J4_length_8abf5 (o' 8, o' 6, g'.1.1, g'.1.2) := h.2.2.1
    rw [e]
    by_cases h1 : s_J4_length_8abf5 (o' 8, o' 6, g'.1.1, g'.1.2) ≤ x
    · rw [if_pos h1, if_pos h1]
    · rw [if_neg h1, if_neg h1, rr_char h h0 h1]
theorem rr_ms_L2 {o o' : Nat → Int32} {g g' : ft_G} (h : ft_RR o o' g g') (c : Nat) (K : Int32 → Int32) : ∀ (n : Nat) (y : Int32), s_X3_matchedSigns_L2 o g c K n y = s_X3_matchedSigns_L2 o' g' c K n y := by
  intro n
  induction n with
  | zero => intro y; rfl
  | succ n ih =>
    intro y
    rw [s_X3_matchedSigns_L2, s_X3_matchedSigns_L2, rr_hasAt h, h.2.1, ih]
theorem rr_ms {o o' : Nat → Int32} {g g' : ft_G} (h : ft_RR o o' g g') (c : Nat) : s_X3_matchedSigns o g c = s_X3_matchedSigns o' g' c := rr_ms_L2 h c _ _ _
theorem rr_readSign {o o' : Nat → Int32} {g g' : ft_G} (h : ft_RR o o' g g') (x : Int32) : (s_X3_readSign o g x).1 = (s_X3_readSign o' g' x).1 ∧ ft_RR (s_X3_readSign o g x).2 (s_X3_readSign o' g' x).2 g g' := by
  unfold s_X3_readSign
  rw [rr_hasAt h, h.2.1]
  by_cases h1 : s_X3_hasAt o' g' (o' 5) x = 0
  · rw [if_pos h1, if_pos h1]; exact ⟨rfl, h⟩
  · rw [if_neg h1, if_neg h1]; exact ⟨rfl, h.up5 rfl⟩
theorem rr_readDigit {o o' : Nat → Int32} {g g' : ft_G} (h : ft_RR o o' g g') : (s_X3_readDigit o g).1 = (s_X3_readDigit o' g').1 ∧ ft_RR (s_X3_readDigit o g).2 (s_X3_readDigit o' g').2 g g' := by
  unfold s_X3_readDigit
  rw [h.2.1]
  by_cases h0 : o' 5 < 0
  · rw [if_pos h0, if_pos h0]; exact ⟨rfl, h⟩
  · rw [if_neg h0, if_neg h0]
    have e : s_J4_length_8abf5 (o 8, o 6, g.1.1, g.1.2) = s_J4_length_8abf5 (o' 8, o' 6, g'.1.1, g'.1.2) := h.2.2.1
    rw [e]
    by_cases h1 : o' 5 < s_J4_length_8abf5 (o' 8, o' 6, g'.1.1, g'.1.2)
    · rw [if_pos h1, if_pos h1, rr_char h h0 (fun q => Int32.lt_irrefl (Int32.lt_of_lt_of_le h1 q))]
      split
      · exact ⟨rfl, h⟩
      · split
        · exact ⟨rfl, h.up5 rfl⟩
        · exact ⟨rfl, h⟩
    · rw [if_neg h1, if_neg h1]; exact ⟨rfl, h⟩
theorem rr_readArgument {o o' : Nat → Int32} {g g' : ft_G} (h : ft_RR o o' g g') (x : Int32) : (s_X3_readArgument o g x).1 = (s_X3_readArgument o' g' x).1 ∧ ft_RR (s_X3_readArgument o g x).2 (s_X3_readArgument o' g' x).2 g g' := by
  obtain ⟨a1, a2⟩ := rr_readSign h 32
  obtain ⟨b1, b2⟩ := rr_readDigit a2
  obtain ⟨c1, c2⟩ := rr_readDigit b2
  unfold s_X3_readArgument
  rw [a1, b1, c1]
  split
  · exact ⟨rfl, a2⟩
  · split
    · exact ⟨rfl, b2⟩
    · split
      · exact ⟨rfl, b2⟩
      · split
        · exact ⟨rfl, c2⟩
        · exact ⟨rfl, c2⟩
theorem rr_readWord_L4 {o o' : Nat → Int32} {g g' : ft_G} (h : ft_RR o o' g g') (K K' : Int32 → Int32 → (Option Nat × (Nat → Int32))) (hK : ∀ a b, (K a b).1 = (K' a b).1 ∧ ft_RR (K a b).2 (K' a b).2 g g') : ∀ (n : Nat) (a b : Int32), (s_X3_readWord_L4 o g K n a b).1 = (s_X3_readWord_L4 o' g' K' n a b).1 ∧ ft_RR (s_X3_readWord_L4 o g K n a b).2 (s_X3_readWord_L4 o' g' K' n a b).2 g g' := by
  intro n
  induction n with
  | zero => intro a b; exact hK a b
  | succ n ih =>
    intro a b
    rw [s_X3_readWord_L4, s_X3_readWord_L4, rr_ms h, h.2.1]
    by_cases h1 : 9 ≤ b
    · rw [if_pos h1, if_pos h1]; exact hK a b
    · rw [if_neg h1, if_neg h1]
      by_cases h2 : s_X3_matchedSigns o' g' (tn b) = nI (ft_wln.getD (tn b) 0)
      · rw [if_pos h2, if_pos h2]; exact ⟨rfl, h.up5 rfl⟩
      · rw [if_neg h2, if_neg h2]; exact ih _ _
theorem rr_readWord {o o' : Nat → Int32} {g g' : ft_G} (h : ft_RR o o' g g') : (s_X3_readWord o g).1 = (s_X3_readWord o' g').1 ∧ ft_RR (s_X3_readWord o g).2 (s_X3_readWord o' g').2 g g' := by
  unfold s_X3_readWord
  exact rr_readWord_L4 h _ _ (by intro a b; exact ⟨rfl, h.up5 (by rw [h.2.1])⟩) _ _ _
def ft_RS (e e' : Int32 × ((Nat → Int32) × ft_G)) : Prop := e.1 = e'.1 ∧ ft_RR e.2.1 e'.2.1 e.2.2 e'.2.2
theorem rr_g {o o' : Nat → Int32} {g g' u u' : ft_G} (h : ft_RR o o' g g') (e : u.1 = g.1) (e' : u'.1 = g'.1) : ft_RR o o' u u' := by
  unfold ft_RR at *
  rw [e, e']
  exact h
theorem rr_readStep_L55 {o0 o0' : Nat → Int32} {g0 g0' : ft_G} (n1 n1' j : Nat) (K K' : Int32 → (Nat → Int32) → ft_G → (Int32 × ((Nat → Int32) × ft_G))) (hK : ∀ y o o' g g', ft_RR o o' g g' → ft_RS (K y o g) (K' y o' g')) : ∀ (n : Nat) (y : Int32) (o o' : Nat → Int32) (g g' : ft_G), ft_RR o o' g g' → ft_RS (s_X3_readStep_L55 o0 g0 n1 j K n y o g) (s_X3_readStep_L55 o0' g0' n1' j K' n y o' g') := by
  intro n
  induction n with
  | zero => intro y o o' g g' h; exact hK y o o' g g' h
  | succ n ih =>
    intro y o o' g g' h
    have h0 := rr_readArgument h 0
    have h1 := rr_readArgument h 1
    rw [s_X3_readStep_L55, s_X3_readStep_L55, h0.1, h1.1]
    split
    · exact hK y o o' g g' h
    · split
      · exact hK y o o' g g' h
      · split
        · split
          · split
            · exact ⟨rfl, h0.2⟩
            · exact ih _ _ _ _ _ (rr_g h0.2 rfl rfl)
          · split
            · exact ⟨rfl, h1.2⟩
            · exact ih _ _ _ _ _ (rr_g h1.2 rfl rfl)
        · split
          · exact ⟨rfl, h0.2⟩
          · exact ih _ _ _ _ _ (rr_g h0.2 rfl rfl)
theorem rr_op {a a' : Int32 × ((Nat → Int32) × ft_G)} {f f' : Nat → Int32 × ((Nat → Int32) × ft_G)} (h0 : ft_RS a a') (h : ∀ j, ft_RS (f j) (f' j)) : ∀ t : Option Nat, ft_RS (ft_op t a f) (ft_op t a' f')
  | none => h0
  | some j => h j
theorem rr_if {p q : Prop} [Decidable p] [Decidable q] (e : p ↔ q) {a a' b b' : Int32 × ((Nat → Int32) × ft_G)} (h0 : ft_RS a a') (h : ft_RS b b') : ft_RS (if p then a else b) (if q then a' else b') := by
  by_cases hp : p
  · rw [if_pos hp, if_pos (e.mp hp)]; exact h0
  · rw [if_neg hp, if_neg (fun x => hp (e.mpr x))]; exact h
theorem rr_readStep {o o' : Nat → Int32} {g g' : ft_G} (h : ft_RR o o' g g') (n1 n1' : Nat) : ft_RS (s_X3_readStep o g n1) (s_X3_readStep o' g' n1') := by
  obtain ⟨a1, a2⟩ := rr_readWord h
  unfold s_X3_readStep
  rw [a1]
  generalize s_X3_readWord o g = P at a2 ⊢
  generalize s_X3_readWord o' g' = P' at a2 ⊢
  refine rr_op (show ft_RS (0, (P.2, g)) (0, (P'.2, g')) from ⟨rfl, a2⟩) (fun j => ?_) _
  have L : ∀ n y, ft_RS (s_X3_readStep_L55 o g n1 j (fun y4_55 o_55 g_55 => (1, (o_55, g_55))) n y P.2 (ft_gc g n1 j)) (s_X3_readStep_L55 o' g' n1' j (fun y4_55 o_55 g_55 => (1, (o_55, g_55))) n y P'.2 (ft_gc g' n1' j)) := fun n y => rr_readStep_L55 n1 n1' j _ _ (by intro y o o' g g' h; exact ⟨rfl, h⟩) n y _ _ _ _ (rr_g a2 rfl rfl)
  refine rr_if Iff.rfl (rr_if ?_ ⟨rfl, rr_g a2 rfl rfl⟩ (L _ _)) (L _ _)
  rw [a2.2.1, rr_hasAt (rr_g a2 (u := ft_gc g n1 j) (u' := ft_gc g' n1' j) rfl rfl)]
theorem rr_read_L10 {o0 o0' : Nat → Int32} {g0 g0' : ft_G} (K K' : (Nat → Int32) → ft_G → (Int32 × ((Nat → Int32) × ft_G))) (hK : ∀ o o' g g', ft_RR o o' g g' → ft_RS (K o g) (K' o' g')) : ∀ (n : Nat) (o o' : Nat → Int32) (g g' : ft_G), ft_RR o o' g g' → ft_RS (s_X3_read_L10 o0 g0 K n o g) (s_X3_read_L10 o0' g0' K' n o' g') := by
  intro n
  induction n with
  | zero => intro o o' g g' h; exact hK o o' g g' h
  | succ n ih =>
    intro o o' g g' h
    have a := rr_readStep h (tn (o 4)) (tn (o' 4))
    rw [s_X3_read_L10, s_X3_read_L10]
    generalize s_X3_readStep o g (tn (o 4)) = P at a ⊢
    generalize s_X3_readStep o' g' (tn (o' 4)) = P' at a ⊢
    obtain ⟨a1, a2⟩ := a
    have b : ft_RR (va_up P.2.1 4 (P.2.1 4 + 1)) (va_up P'.2.1 4 (P'.2.1 4 + 1)) P.2.2 P'.2.2 := a2.up4 (by rw [a2.1])
    generalize va_up P.2.1 4 (P.2.1 4 + 1) = B at b ⊢
    generalize va_up P'.2.1 4 (P'.2.1 4 + 1) = B' at b ⊢
    obtain ⟨c1, c2⟩ := rr_readSign b 59
    have e : s_J4_length_8abf5 (B 8, B 6, P.2.2.1.1, P.2.2.1.2) = s_J4_length_8abf5 (B' 8, B' 6, P'.2.2.1.1, P'.2.2.1.2) := b.2.2.1
    rw [h.1, a1, e, c1, b.2.1]
    split
    · exact hK o o' g g' h
    · split
      · exact ⟨rfl, a2⟩
      · split
        · split
          · exact ⟨rfl, c2⟩
          · exact ih _ _ _ _ c2
        · exact ⟨rfl, b⟩
theorem rr_read {o o' : Nat → Int32} {g g' : ft_G} (h6 : o 6 = o' 6) (hc : ∀ i, i < tn (o' 6) → ft_ch (g.1.2 i) = ft_ch (g'.1.2 i)) : (s_X3_read o g).1 = (s_X3_read o' g').1 := by
  have h : ft_RR (va_up (va_up o 5 0) 4 0) (va_up (va_up o' 5 0) 4 0) g g' := by
    refine ⟨?_, ?_, ?_, ?_⟩
    · rw [va_up_self, va_up_self]
    · rw [va_up_ne (va_up o 5 0) 0 (show 5 ≠ 4 by omega), va_up_ne (va_up o' 5 0) 0 (show 5 ≠ 4 by omega), va_up_self, va_up_self]
    · rw [va_up_ne (va_up o 5 0) 0 (show 6 ≠ 4 by omega), va_up_ne (va_up o' 5 0) 0 (show 6 ≠ 4 by omega), va_up_ne o 0 (show 6 ≠ 5 by omega), va_up_ne o' 0 (show 6 ≠ 5 by omega)]; exact h6
    · rw [va_up_ne _ _ (by omega), va_up_ne _ _ (by omega)]; exact hc
  exact (rr_read_L10 _ _ (by intro o o' g g' h; exact ⟨rfl, h⟩) _ _ _ _ _ h).1
def ft_oT (j : Nat) : Nat → Int32 := fun i => if i = 6 then nI (ft_scn.getD j 0) else 0
def ft_gT (j : Nat) : ft_G := ((70, fun i => (ft_scy.getD j []).getD i 0), (0, fun _ => 0), (fun _ => 0), (fun _ _ => 0))
theorem rr_28 : ∀ j, j < 28 → (s_X3_read (ft_oT j) (ft_gT j)).1 = 1 := by decide +kernel
/-- the buffer holds the text's first n signs -/
def ft_Td (j n : Nat) (σ : ft_Sg) : Prop := σ.2.2.1 6 = nI n ∧ ∀ i, i < n → ft_ch (σ.2.2.2.1.2 i) = ft_ch ((ft_scy.getD j []).getD i 0)
theorem j_tx0 {c j : Nat} {σ : ft_Sg} (_h : ft_Jd c σ) (h6 : σ.2.2.1 6 = 0) (_hj : j < 28) : ft_Td j 0 σ := ⟨h6.trans nI_0.symm, fun i hi => absurd hi (Nat.not_lt_zero i)⟩
theorem ft_chb : ∀ j, j < 28 → ∀ i, i < ft_scn.getD j 0 → ft_ch (ft_b8 ((ft_ch ((ft_scy.getD j []).getD i 0)).toInt8.toInt32)) = ft_ch ((ft_scy.getD j []).getD i 0) := by decide +kernel
theorem en_keep {q i : Nat} {u : ft_TB} (h : i < u.2.2.1) : (ft_en q u).2.2.2 i = u.2.2.2 i := by
  unfold ft_en
  split
  · rfl
  · show va_cpy u.2.2.2 (fun _ => 0) 0 0 u.2.2.1 i = _
    unfold va_cpy
    rw [if_pos ⟨Nat.zero_le _, by omega⟩]
    exact congrArg u.2.2.2 (by omega)
theorem j_tx1 {c j n : Nat} {σ : ft_Sg} (h : ft_Jd c σ) (hT : ft_Td j n σ) (hj : j < 28) (hn : n < ft_scn.getD j 0) : ft_Td j (n + 1) (w_put σ (ft_ch ((ft_scy.getD j []).getD n 0))).2 := by
  obtain ⟨h6, hc⟩ := hT
  have hl := ft_scl j hj
  have hb := ft_scb j hj n hn
  have hch := ft_chb j hj n hn
  obtain ⟨e6, e7, e8, e9⟩ := h.2.2.2.1.cnt (by omega)
  rw [w2_put]
  have hlen : s_J4_length_8abf5 (σ.2.2.1 8, σ.2.2.1 6, σ.2.2.2.1.1, σ.2.2.2.1.2) < 60 := by
    show σ.2.2.1 6 < 60
    rw [h6]
    exact nI_lt (b := 60) (by omega) (by decide)
  have el : (l_type σ (ft_ch ((ft_scy.getD j []).getD n 0))).2 = (σ.1, σ.2.1, (ft_oc259 σ.2.2.1 σ.2.2.2 (ft_ch ((ft_scy.getD j []).getD n 0))).1, (ft_oc259 σ.2.2.1 σ.2.2.2 (ft_ch ((ft_scy.getD j []).getD n 0))).2) := by
    unfold l_type s_X7_type
    rw [if_neg (fun q => Int32.lt_irrefl (Int32.lt_of_lt_of_le q hb.1)), if_pos hb.2, if_pos hlen]
  rw [el]
  have hn6 : tn (σ.2.2.1 6) = n := by rw [h6]; exact ft_tnI (by omega)
  refine ⟨?_, fun i hi => ?_⟩
  · show va_up (va_up σ.2.2.1 8 (ft_en (tn (σ.2.2.1 6) + 1) (σ.2.2.1 8, σ.2.2.1 6, σ.2.2.2.1.1, σ.2.2.2.1.2)).1) 6 (σ.2.2.1 6 + 1) 6 = _
    rw [va_up_self, h6, nI_1]
  · show ft_ch (va_up (ft_en (tn (σ.2.2.1 6) + 1) (σ.2.2.1 8, σ.2.2.1 6, σ.2.2.2.1.1, σ.2.2.2.1.2)).2.2.2 (tn (σ.2.2.1 6)) (ft_b8 ((ft_ch ((ft_scy.getD j []).getD n 0)).toInt8.toInt32)) i) = _
    rw [hn6]
    by_cases e : i = n
    · subst e
      rw [va_up_self]
      exact hch
    · rw [va_up_ne _ _ e, en_keep (show i < σ.2.2.2.1.1 by omega)]
      exact hc i (by omega)
theorem Td_read {j : Nat} {σ : ft_Sg} (hj : j < 28) (h : ft_Td j (ft_scn.getD j 0) σ) : (s_X3_read σ.2.2.1 σ.2.2.2).1 = 1 := by
  have hl := ft_scl j hj
  have e6 : ft_oT j 6 = nI (ft_scn.getD j 0) := rfl
  rw [rr_read (o' := ft_oT j) (g' := ft_gT j) (h.1.trans e6.symm) (fun i hi => ?_)]
  · exact rr_28 j hj
  · rw [e6, ft_tnI (by omega)] at hi
    exact h.2 i hi
