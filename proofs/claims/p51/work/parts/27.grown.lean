/-! the whole object's world when a builder's row has moved -/
theorem ft_arrV {cI : ClassId} {N : Nat} {F F' : Nat → Value} (h : ∀ j, j < N → F j = F' j) : arrV cI N F = arrV cI N F' := by
  have e : (fun j : Fin N => F j.val) = (fun j : Fin N => F' j.val) := funext fun j => h j.val j.isLt
  unfold arrV
  rw [e]
theorem ft_atq {D : va_G} {cl : List vw_C} {a a' : Nat} {cA : ClassId} {n : Nat} {f f' : Nat → Option Nat} {H : Heap} (ha : a' = a) (h : ∀ j, j < n → f j = f' j) (hP : va_at D cl (a, .inl (cA, n, .inr (.inr (.inr (.inr f))))) H) : va_at D cl (a', .inl (cA, n, .inr (.inr (.inr (.inr f'))))) H := by
  subst ha
  have h1 : H[a']? = some (arrV cA n (fun j => va_rf (f j))) := hP
  show H[a']? = some (arrV cA n (fun j => va_rf (f' j)))
  rw [h1, ft_arrV (fun j hj => by rw [h j hj])]
theorem ft_ate {D : va_G} {cl : List vw_C} {a a' : Nat} {e e' : va_E} {H : Heap} (ha : a' = a) (he : e' = e) (hP : va_at D cl (a, e) H) : va_at D cl (a', e') H := by
  subst ha; subst he; exact hP
theorem ft_T_ad {f f' : Nat → Nat} {k : Nat → ClassId} {r : Nat → Int32} {b x : Nat} (h : ∀ j, j < 3 → f' j = f j) : ft_T f' k r b x = ft_T f k r b x := by
  match x with
  | 0 => show (.inr (8, [.ref (f' 1), .ref (f' 2), _, _, _, _]) : va_E) = .inr (8, [.ref (f 1), .ref (f 2), _, _, _, _]); rw [h 1 (by decide), h 2 (by decide)]
  | 1 => rfl
  | x + 2 => rfl
theorem ft_S_ad {D : va_G} {cl : List vw_C} {f f' : Nat → Nat} {k : Nat → ClassId} {r : Nat → Int32} {x : Nat} {H : Heap} (h : ∀ j, j < 23 → f' j = f j) (hx : x < 23) (hP : va_at D cl (f x, ft_S f k r x) H) : va_at D cl (f' x, ft_S f' k r x) H := by
  have hax := h x hx
  match x, hx with
  | 0, _ =>
    refine ft_ate hax ?_ hP
    show (.inr (6, [.ref (f' 1), .ref (f' 2), .ref (f' 3), .ref (f' 4), _, _, _, _, _, _, _, _]) : va_E) = .inr (6, [.ref (f 1), .ref (f 2), .ref (f 3), .ref (f 4), _, _, _, _, _, _, _, _])
    rw [h 1 (by decide), h 2 (by decide), h 3 (by decide), h 4 (by decide)]
  | 1, _ => exact ft_atq hax (fun j hj => congrArg some (h (5 + 3 * j) (by omega)).symm) hP
  | 2, _ => exact ft_ate hax rfl hP
  | 3, _ => exact ft_ate hax rfl hP
  | 4, _ => exact ft_ate hax rfl hP
  | j + 5, hx =>
    refine ft_ate hax ?_ hP
    exact ft_T_ad (fun y hy => h (5 + 3 * (j / 3) + y) (by omega))

theorem ft_b8_fit (x : Int32) : fits .byte (.int (ft_b8 x)) = true := pk_fb x
theorem ft_up_fit {f : Nat → Int32} {i : Nat} {x : Int32} (hf : sb_Fit f) : sb_Fit (va_up f i (ft_b8 x)) := fun j => by
  unfold va_up
  split
  · exact ft_b8_fit _
  · exact hf j
theorem ft_dgs_Fit : ∀ (n v p : Nat) (f : Nat → Int32), sb_Fit f → sb_Fit (ft_dgs n v p f) := by
  intro n
  induction n with
  | zero => intro v p f h; exact h
  | succ n ih =>
    intro v p f h
    rw [ft_dgs]
    split
    · exact ih _ _ _ (ft_up_fit (ft_up_fit h))
    · split
      · exact ft_up_fit (ft_up_fit h)
      · exact ft_up_fit h
theorem ft_dgs_fit {f : Nat → Int32} {v e : Nat} (hf : sb_Fit f) : sb_Fit (ft_dgs 6 v e f) := ft_dgs_Fit _ _ _ _ hf
theorem ft_nat0 {x : Int32} (h : ¬ x < 0) : x = nI (tn x) := by
  obtain ⟨j, hj, rfl⟩ := nI_of h
  rw [show tn (nI j) = j from nI_clamp hj]
theorem ft_tn31 (x : Int32) : tn x < 2 ^ 31 := by
  have h1 : x.toInt < 2 ^ 31 := Int32.toInt_lt x
  have h2 : tn x = x.toInt.toNat := rfl
  omega

/-- only the names 258, 259 differ -/
theorem ft_ac_259 {D : va_G} {cl : List vw_C} {ad ad' : Nat → Nat} {k : Nat → ClassId} {Z : Nat → Nat → Nat} {q : Nat → Nat → Int32} {pm : Nat → Nat} {o : Nat → Int32} {g : ft_G} {o' : Nat → Int32} {g' : ft_G} {j : Nat} {H : Heap} (h : ∀ j, j ≠ 259 → ad' j = ad j) (ho : ∀ i, i ≠ 6 → i ≠ 8 → o' i = o i) (hg : g'.2.1 = g.2.1 ∧ g'.2.2 = g.2.2) (hpm : ∀ i, i < 8 → pm i < 8) (hj : j < 292) (h1 : j ≠ 258) (h2 : j ≠ 259) (hP : va_at D cl (ad j, ft_R ad k Z q pm o g j) H) : va_at D cl (ad' j, ft_R ad' k Z q pm o' g' j) H := by
  by_cases hl : j < 253
  · obtain ⟨s, x, hx, rfl⟩ : ∃ s x, x < 23 ∧ j = 23 * s + x := ⟨j / 23, j % 23, by omega, by omega⟩
    have hs : s < 11 := by omega
    rw [ft_R_at hs hx] at hP ⊢
    exact ft_S_ad (f := ft_sq ad s) (f' := ft_sq ad' s) (fun y hy => h (23 * s + y) (by omega)) hx hP
  · obtain ⟨y, rfl⟩ : ∃ y, j = 253 + y := ⟨j - 253, by omega⟩
    have hax := h (253 + y) h2
    rw [ft_R_hi] at hP ⊢
    match y, hj with
    | 0, _ =>
      refine ft_ate hax ?_ hP
      show (.inr (9, [.ref (ad' (23 * 0 + 0)), .ref (ad' (23 * 1 + 0)), .ref (ad' (23 * 2 + 0)), .ref (ad' 254), .ref (ad' 256), .ref (ad' 260), .int (o' 0), .int (o' 1), .int (o' 2)]) : va_E) = .inr (9, [.ref (ad (23 * 0 + 0)), .ref (ad (23 * 1 + 0)), .ref (ad (23 * 2 + 0)), .ref (ad 254), .ref (ad 256), .ref (ad 260), .int (o 0), .int (o 1), .int (o 2)])
      rw [h (23 * 0 + 0) (by decide), h (23 * 1 + 0) (by decide), h (23 * 2 + 0) (by decide), h 254 (by decide), h 256 (by decide), h 260 (by decide), ho 0 (by decide) (by decide), ho 1 (by decide) (by decide), ho 2 (by decide) (by decide)]
    | 1, _ =>
      refine ft_ate hax ?_ hP
      show (.inr (4, [.ref (ad' 255), .int (o' 3)]) : va_E) = .inr (4, [.ref (ad 255), .int (o 3)])
      rw [h 255 (by decide), ho 3 (by decide) (by decide)]
    | 2, _ => exact ft_atq hax (fun i hi => congrArg some (h (23 * (3 + pm i) + 0) (by have := hpm i hi; omega)).symm) hP
    | 3, _ =>
      refine ft_ate hax ?_ hP
      show (.inr (5, [.ref (ad' 258), .ref (ad' 257), .int (o' 4), .int (o' 5)]) : va_E) = .inr (5, [.ref (ad 258), .ref (ad 257), .int (o 4), .int (o 5)])
      rw [h 258 (by decide), h 257 (by decide), ho 4 (by decide) (by decide), ho 5 (by decide) (by decide)]
    | 4, _ => exact ft_atq hax (fun i hi => congrArg some (h (262 + 2 * i) (by omega)).symm) hP

    | 5, _ => exact absurd rfl h1
    | 6, _ => exact absurd rfl h2
    | 7, _ =>
      refine ft_ate hax ?_ hP
      show (.inr (1, [.ref (ad' 261), .int 0, .int (o' 9), .int (o' 7)]) : va_E) = .inr (1, [.ref (ad 261), .int 0, .int (o 9), .int (o 7)])
      rw [h 261 (by decide), ho 9 (by decide) (by decide), ho 7 (by decide) (by decide)]
    | 8, _ =>
      refine ft_ate hax ?_ hP
      show (.inl (k 4, g'.2.1.1, .inl g'.2.1.2) : va_E) = .inl (k 4, g.2.1.1, .inl g.2.1.2)
      rw [hg.1]
    | j + 9, _ =>
      refine ft_ate hax ?_ hP
      show (if j % 2 = 0 then (.inr (7, [.ref (Z 0 (g'.2.2.1 (j / 2))), .ref (ad' (263 + 2 * (j / 2)))]) : va_E) else .inl (k 0, 3, .inl (g'.2.2.2 (j / 2)))) = (if j % 2 = 0 then (.inr (7, [.ref (Z 0 (g.2.2.1 (j / 2))), .ref (ad (263 + 2 * (j / 2)))]) : va_E) else .inl (k 0, 3, .inl (g.2.2.2 (j / 2))))
      rw [hg.2, h (263 + 2 * (j / 2)) (by omega)]

/-- the numbers and rows with the builder's new ones -/
def ft_po259 (o : Nat → Int32) (v : ft_TB) : Nat → Int32 := va_up (va_up o 8 v.1) 6 v.2.1
def ft_pg259 (g : ft_G) (v : ft_TB) : ft_G := ((v.2.2.1, v.2.2.2), g.2)
set_option maxRecDepth 100000 in
theorem ft_grow_259 {D : va_G} {cl : List vw_C} {A : Nat → Prop} {ad : Nat → Nat} {k : Nat → ClassId} {Z : Nat → Nat → Nat} {q : Nat → Nat → Int32} {pm : Nat → Nat} {o : Nat → Int32} {g : ft_G} {H H1 : Heap} {v : Nat × ft_TB} (hP : va_P D cl (ft_WR ad k Z q pm o g) H) (hD : va_D A (ft_WR ad k Z q pm o g)) (hA : ∀ x, H.size ≤ x → A x) (hpm : ∀ i, i < 8 → pm i < 8) (hv : v.1 = ad 259 ∨ H.size ≤ v.1) (hk : ∀ x : Nat, x < H.size → ¬ ft_An 2 (fun j => ad (258 + j)) H.size x → H1[x]? = H[x]?) (hB : va_P D cl (ft_WB (va_up (fun j => ad (258 + j)) 1 v.1) k v.2) H1) : va_P D cl (ft_WR (va_up ad 259 v.1) k Z q pm (ft_po259 o v.2) (ft_pg259 g v.2)) H1 ∧ va_D A (ft_WR (va_up ad 259 v.1) k Z q pm (ft_po259 o v.2) (ft_pg259 g v.2)) := by
  have hlt : ∀ j, j < 292 → ad j < H.size := fun j hj => (hP j _ (ft_get hj)).lt
  have hinj : ∀ i j, i < 292 → j < 292 → ad i = ad j → i = j := fun i j hi hj e => hD.1 i j _ _ (ft_get hi) (ft_get hj) e
  refine ⟨fun j x hx => ?_, fun i j x y hx hy e => ?_, fun j x hx => ?_⟩
  · obtain ⟨hj, rfl⟩ := ft_of hx
    by_cases h1 : j = 258
    · subst h1
      exact hB 0 _ (ft_get' (by decide) rfl)
    · by_cases h2 : j = 259
      · subst h2
        exact hB 1 _ (ft_get' (by decide) rfl)
      · have h0 := hP j _ (ft_get hj)
        have h0 : va_at D cl (ad j, ft_R ad k Z q pm o g j) H1 := h0.kept (hk (ad j) h0.lt (fun hh => by
          rcases hh with ⟨i, hi, e⟩ | e
          · have e : ad j = ad (258 + i) := e
            have := hinj _ _ hj (by omega) e
            omega
          · exact absurd h0.lt (Nat.not_lt.mpr e)))
        have ho : ∀ i, i ≠ 6 → i ≠ 8 → ft_po259 o v.2 i = o i := fun i h7 h9 => (va_up_ne _ _ h7).trans (va_up_ne _ _ h9)
        have hg : (ft_pg259 g v.2).2.1 = g.2.1 ∧ (ft_pg259 g v.2).2.2 = g.2.2 := ⟨rfl, rfl⟩
        exact ft_ac_259 (ad' := va_up ad 259 v.1) (fun j hj => va_up_ne _ _ hj) ho hg hpm hj h1 h2 h0
  · obtain ⟨hi, rfl⟩ := ft_of hx
    obtain ⟨hj, rfl⟩ := ft_of hy
    have e : va_up ad 259 v.1 i = va_up ad 259 v.1 j := e
    by_cases h1 : i = 259
    · by_cases h2 : j = 259
      · rw [h1, h2]
      · subst h1
        rw [va_up_self, va_up_ne _ _ h2] at e
        rcases hv with hv | hv
        · exact hinj _ _ hi hj (hv.symm.trans e)
        · have := hlt j hj; omega
    · by_cases h2 : j = 259
      · subst h2
        rw [va_up_self, va_up_ne _ _ h1] at e
        rcases hv with hv | hv
        · exact hinj _ _ hi hj (e.trans hv)
        · have := hlt i hi; omega
      · rw [va_up_ne _ _ h1, va_up_ne _ _ h2] at e
        exact hinj _ _ hi hj e
  · obtain ⟨hj, rfl⟩ := ft_of hx
    show A (va_up ad 259 v.1 j)
    by_cases h1 : j = 259
    · subst h1
      rw [va_up_self]
      rcases hv with hv | hv
      · rw [hv]; exact hD.2 259 _ (ft_get (by decide))
      · exact hA _ hv
    · rw [va_up_ne _ _ h1]; exact hD.2 j _ (ft_get hj)
/-- its Squares and Trucks stand where they stood -/
theorem ft_sqs_259 {D : va_G} {ad : Nat → Nat} {b : Nat} {k : Nat → ClassId} {Z : Nat → Nat → Nat} {q : Nat → Nat → Int32} {pm : Nat → Nat} {o : Nat → Int32} {g : ft_G} {H : Heap} {s : Nat} (hP : va_P D vwCl (ft_WR (va_up ad 259 b) k Z q pm o g) H) (hs : s < 11) : va_P D vwCl (ft_WS (ft_sq ad s) k (q s)) H := by
  have h := ft_R_S hP hs
  intro j x hx
  obtain ⟨hj, rfl⟩ := ft_of hx
  exact ft_S_ad (f := ft_sq (va_up ad 259 b) s) (f' := ft_sq ad s) (fun y hy => (va_up_ne ad b (show 23 * s + y ≠ 259 by omega)).symm) hj (h j _ (ft_get hj))
theorem ft_D_259 {A : Nat → Prop} {ad : Nat → Nat} {k : Nat → ClassId} {Z : Nat → Nat → Nat} {q : Nat → Nat → Int32} {pm : Nat → Nat} {o : Nat → Int32} {g : ft_G} (hD : va_D A (ft_WR ad k Z q pm o g)) : va_D A (ft_WB (fun j => ad (258 + j)) k (o 8, o 6, g.1.1, g.1.2)) :=
  ft_D_sub hD (fun j => 258 + j) (fun j hj => by omega) (fun _ _ _ _ h => by omega) (fun _ _ => rfl)
theorem ft_up_259 (ad : Nat → Nat) : va_up ad 259 (ad 259) = ad := funext fun j => by
  by_cases h : j = 259
  · subst h; rw [va_up_self]
  · rw [va_up_ne _ _ h]
theorem ft_upp_259 (ad : Nat → Nat) (a b : Nat) : va_up (va_up ad 259 a) 259 b = va_up ad 259 b := funext fun j => by
  by_cases h : j = 259
  · subst h; rw [va_up_self, va_up_self]
  · rw [va_up_ne _ _ h, va_up_ne _ _ h, va_up_ne _ _ h]
theorem ft_fA_259 {ad : Nat → Nat} {b sz n : Nat} (hbb : b = ad 259 ∨ sz ≤ b) (hn : sz ≤ n) : ∀ x, ft_An 2 (fun j => va_up ad 259 b (258 + j)) n x → ft_An 292 ad sz x := by
  intro x hx
  rcases hx with ⟨i, hi, e⟩ | e
  · match i, hi with
    | 0, _ => exact Or.inl ⟨258, by decide, e.trans (va_up_ne _ _ (by decide))⟩
    | 1, _ =>
      have e : x = b := e.trans (va_up_self _ _ _)
      rcases hbb with hbb | hbb
      · exact Or.inl ⟨259, by decide, e.trans hbb⟩
      · exact Or.inr (by omega)
  · exact Or.inr (Nat.le_trans hn e)
theorem ft_bb_259 {ad : Nat → Nat} {b sz n v : Nat} (hbb : b = ad 259 ∨ sz ≤ b) (hn : sz ≤ n) (hv : v = va_up ad 259 b 259 ∨ n ≤ v) : v = ad 259 ∨ sz ≤ v := by
  rw [va_up_self] at hv
  rcases hv with h | h
  · rw [h]; exact hbb
  · exact Or.inr (Nat.le_trans hn h)
theorem ft_same_259 {D : va_G} {cl : List vw_C} {A : Nat → Prop} {ad : Nat → Nat} {k : Nat → ClassId} {Z : Nat → Nat → Nat} {q : Nat → Nat → Int32} {pm : Nat → Nat} {o : Nat → Int32} {g : ft_G} {H H1 : Heap} {v : ft_TB} (hP : va_P D cl (ft_WR ad k Z q pm o g) H) (hD : va_D A (ft_WR ad k Z q pm o g)) (hA : ∀ x, H.size ≤ x → A x) (hpm : ∀ i, i < 8 → pm i < 8) (hk : ∀ x : Nat, x < H.size → ¬ ft_A 2 (fun j => ad (258 + j)) x → H1[x]? = H[x]?) (hB : va_P D cl (ft_WB (fun j => ad (258 + j)) k v) H1) : va_P D cl (ft_WR ad k Z q pm (ft_po259 o v) (ft_pg259 g v)) H1 ∧ va_D A (ft_WR ad k Z q pm (ft_po259 o v) (ft_pg259 g v)) := by
  have h := ft_grow_259 (v := (ad 259, v)) hP hD hA hpm (Or.inl rfl) (fun x hx hn => hk x hx (fun h => hn (Or.inl h))) (ft_cast hB (by rw [show (ad 259, v).1 = (fun j => ad (258 + j)) 1 from rfl, ft_up1]))
  rw [show va_up ad 259 (ad 259, v).1 = ad from ft_up_259 ad] at h
  exact h
theorem ft_sbA_259 {ad : Nat → Nat} : ∀ x, ft_A 2 (fun j => ad (258 + j)) x → ft_A 292 ad x := by
  intro x ⟨i, hi, e⟩
  exact ⟨258 + i, by omega, e⟩
theorem ft_same0_259 {D : va_G} {cl : List vw_C} {A : Nat → Prop} {ad : Nat → Nat} {k : Nat → ClassId} {Z : Nat → Nat → Nat} {q : Nat → Nat → Int32} {pm : Nat → Nat} {o : Nat → Int32} {g : ft_G} {H H1 : Heap} {v : ft_TB} (hP : va_P D cl (ft_WR ad k Z q pm o g) H) (hD : va_D A (ft_WR ad k Z q pm o g)) (hpm : ∀ i, i < 8 → pm i < 8) (hk : ∀ x : Nat, x < H.size → ¬ ft_A 2 (fun j => ad (258 + j)) x → H1[x]? = H[x]?) (hB : va_P D cl (ft_WB (fun j => ad (258 + j)) k v) H1) : va_P D cl (ft_WR ad k Z q pm (ft_po259 o v) (ft_pg259 g v)) H1 ∧ va_D A (ft_WR ad k Z q pm (ft_po259 o v) (ft_pg259 g v)) :=
  ⟨(ft_same_259 hP (hD.weaken (fun _ _ _ _ => trivial)) (fun _ _ => trivial) hpm hk hB).1, ft_D_va hD _⟩
/-- what the builder is known to be: its text has c ≤ n letters, its row 16, 34 or 70 places that hold bytes -/
def ft_ok259 (o : Nat → Int32) (g : ft_G) (n : Nat) : Prop := (∃ c : Nat, c ≤ n ∧ o 6 = nI c ∧ c ≤ g.1.1) ∧ (g.1.1 = 16 ∨ g.1.1 = 34 ∨ g.1.1 = 70) ∧ sb_Fit g.1.2
theorem ft_ok259.mono {o : Nat → Int32} {g : ft_G} {n n' : Nat} (h : ft_ok259 o g n) (hn : n ≤ n') : ft_ok259 o g n' := by
  obtain ⟨⟨c, h1, h2⟩, h3⟩ := h
  exact ⟨⟨c, Nat.le_trans h1 hn, h2⟩, h3⟩
theorem ft_ok259.cnt {o : Nat → Int32} {g : ft_G} {n : Nat} (h : ft_ok259 o g n) (hn : n ≤ 70) : o 6 = nI (tn (o 6)) ∧ tn (o 6) ≤ n ∧ tn (o 6) ≤ g.1.1 ∧ g.1.1 ≤ 70 := by
  obtain ⟨⟨c, h1, h2, h3⟩, h4, -⟩ := h
  have e : tn (o 6) = c := by rw [h2]; exact nI_clamp (by omega)
  rw [e]
  exact ⟨h2, h1, h3, by omega⟩
theorem ft_ok259.gc {o : Nat → Int32} {g : ft_G} {n m : Nat} (h : ft_ok259 o g n) (hm : m ≤ 70) : ft_gcap m g.1.1 ≤ 150 := by
  obtain ⟨-, h4, -⟩ := h
  unfold ft_gcap
  split <;> omega
/-- a letter put behind it; a number; the empty text -/
def ft_oc259 (o : Nat → Int32) (g : ft_G) (x : Int32) : (Nat → Int32) × ft_G := (ft_po259 o (ft_apc (tn (o 6)) x (o 8, o 6, g.1.1, g.1.2)), ft_pg259 g (ft_apc (tn (o 6)) x (o 8, o 6, g.1.1, g.1.2)))
def ft_oi259 (o : Nat → Int32) (g : ft_G) (x : Int32) : (Nat → Int32) × ft_G := (ft_po259 o (ft_api (tn (o 6)) (tn x) (o 8, o 6, g.1.1, g.1.2)), ft_pg259 g (ft_api (tn (o 6)) (tn x) (o 8, o 6, g.1.1, g.1.2)))
def ft_oz259 (o : Nat → Int32) (g : ft_G) : (Nat → Int32) × ft_G := (ft_po259 o (s_J4_setLength_d00df_0 (o 8, o 6, g.1.1, g.1.2) 0), ft_pg259 g (s_J4_setLength_d00df_0 (o 8, o 6, g.1.1, g.1.2) 0))
theorem ft_ok259.en {o : Nat → Int32} {g : ft_G} {n m : Nat} (h : ft_ok259 o g n) (hn : n ≤ 70) (hm : m ≤ 70) (hd : m ≤ tn (o 6) + 11) : ((ft_en m (o 8, o 6, g.1.1, g.1.2)).2.2.1 = 16 ∨ (ft_en m (o 8, o 6, g.1.1, g.1.2)).2.2.1 = 34 ∨ (ft_en m (o 8, o 6, g.1.1, g.1.2)).2.2.1 = 70) ∧ sb_Fit (ft_en m (o 8, o 6, g.1.1, g.1.2)).2.2.2 := by
  obtain ⟨e1, e2, e3, e4⟩ := h.cnt hn
  obtain ⟨-, h4, h5⟩ := h
  unfold ft_en
  split
  · exact ⟨h4, h5⟩
  · rename_i hne
    have hne : ¬ m ≤ g.1.1 := hne
    refine ⟨?_, fun j => ?_⟩
    · show ft_gcap m g.1.1 = 16 ∨ ft_gcap m g.1.1 = 34 ∨ ft_gcap m g.1.1 = 70
      unfold ft_gcap
      split <;> omega
    · show fits .byte (.int (va_cpy g.1.2 (fun _ => 0) 0 0 g.1.1 j)) = true
      by_cases hj : j < g.1.1
      · rw [pk_cpy_in (Nat.zero_le _) (by omega)]; exact h5 _
      · rw [pk_cpy_out (Or.inr (by omega))]; rfl
theorem ft_ok259.c {o : Nat → Int32} {g : ft_G} {n : Nat} {x : Int32} (h : ft_ok259 o g n) (hn : n + 1 ≤ 70) : ft_ok259 (ft_oc259 o g x).1 (ft_oc259 o g x).2 (n + 1) := by
  obtain ⟨e1, e2, e3, e4⟩ := h.cnt (by omega)
  obtain ⟨h6, h7⟩ := h.en (m := tn (o 6) + 1) (by omega) (by omega) (by omega)
  refine ⟨⟨tn (o 6) + 1, by omega, ?_, ft_en_r⟩, h6, fun j => ?_⟩
  · show o 6 + 1 = _
    exact (congrArg (· + 1) e1).trans (nI_1 _)
  · show fits .byte (.int (va_up _ _ _ j)) = true
    unfold va_up
    split
    · exact ft_b8_fit _
    · exact h7 j
theorem ft_ok259.i {o : Nat → Int32} {g : ft_G} {n d : Nat} {x : Int32} (h : ft_ok259 o g n) (hd : sb_dg (tn x) ≤ d) (hn : n + d ≤ 70) : ft_ok259 (ft_oi259 o g x).1 (ft_oi259 o g x).2 (n + d) := by
  obtain ⟨e1, e2, e3, e4⟩ := h.cnt (by omega)
  have h10 := sb_dg_in (tn x)
  obtain ⟨h6, h7⟩ := h.en (m := tn (o 6) + sb_dg (tn x)) (by omega) (by omega) (by omega)
  exact ⟨⟨tn (o 6) + sb_dg (tn x), by omega, rfl, ft_en_r⟩, h6, ft_dgs_fit h7⟩
theorem ft_ok259.z {o : Nat → Int32} {g : ft_G} {n : Nat} (h : ft_ok259 o g n) : ft_ok259 (ft_oz259 o g).1 (ft_oz259 o g).2 0 := by
  obtain ⟨-, h4, h5⟩ := h
  have e : (s_J4_setLength_d00df_0 (o 8, o 6, g.1.1, g.1.2) 0).2 = (0, g.1.1, g.1.2) := by
    unfold s_J4_setLength_d00df_0 s_J5_setLength_d00df_0
    split <;> rfl
  refine ⟨⟨0, Nat.le_refl _, ?_, Nat.zero_le _⟩, ?_, ?_⟩
  · show (s_J4_setLength_d00df_0 (o 8, o 6, g.1.1, g.1.2) 0).2.1 = _
    rw [e]; rfl
  · show (s_J4_setLength_d00df_0 (o 8, o 6, g.1.1, g.1.2) 0).2.2.1 = 16 ∨ (s_J4_setLength_d00df_0 (o 8, o 6, g.1.1, g.1.2) 0).2.2.1 = 34 ∨ (s_J4_setLength_d00df_0 (o 8, o 6, g.1.1, g.1.2) 0).2.2.1 = 70
    rw [e]; exact h4
  · show sb_Fit (s_J4_setLength_d00df_0 (o 8, o 6, g.1.1, g.1.2) 0).2.2.2
    rw [e]; exact h5

/-- only the names 260, 261 differ -/
theorem ft_ac_261 {D : va_G} {cl : List vw_C} {ad ad' : Nat → Nat} {k : Nat → ClassId} {Z : Nat → Nat → Nat} {q : Nat → Nat → Int32} {pm : Nat → Nat} {o : Nat → Int32} {g : ft_G} {o' : Nat → Int32} {g' : ft_G} {j : Nat} {H : Heap} (h : ∀ j, j ≠ 261 → ad' j = ad j) (ho : ∀ i, i ≠ 7 → i ≠ 9 → o' i = o i) (hg : g'.1 = g.1 ∧ g'.2.2 = g.2.2) (hpm : ∀ i, i < 8 → pm i < 8) (hj : j < 292) (h1 : j ≠ 260) (h2 : j ≠ 261) (hP : va_at D cl (ad j, ft_R ad k Z q pm o g j) H) : va_at D cl (ad' j, ft_R ad' k Z q pm o' g' j) H := by
  by_cases hl : j < 253
  · obtain ⟨s, x, hx, rfl⟩ : ∃ s x, x < 23 ∧ j = 23 * s + x := ⟨j / 23, j % 23, by omega, by omega⟩
    have hs : s < 11 := by omega
    rw [ft_R_at hs hx] at hP ⊢
    exact ft_S_ad (f := ft_sq ad s) (f' := ft_sq ad' s) (fun y hy => h (23 * s + y) (by omega)) hx hP
  · obtain ⟨y, rfl⟩ : ∃ y, j = 253 + y := ⟨j - 253, by omega⟩
    have hax := h (253 + y) h2
    rw [ft_R_hi] at hP ⊢
    match y, hj with
    | 0, _ =>
      refine ft_ate hax ?_ hP
      show (.inr (9, [.ref (ad' (23 * 0 + 0)), .ref (ad' (23 * 1 + 0)), .ref (ad' (23 * 2 + 0)), .ref (ad' 254), .ref (ad' 256), .ref (ad' 260), .int (o' 0), .int (o' 1), .int (o' 2)]) : va_E) = .inr (9, [.ref (ad (23 * 0 + 0)), .ref (ad (23 * 1 + 0)), .ref (ad (23 * 2 + 0)), .ref (ad 254), .ref (ad 256), .ref (ad 260), .int (o 0), .int (o 1), .int (o 2)])
      rw [h (23 * 0 + 0) (by decide), h (23 * 1 + 0) (by decide), h (23 * 2 + 0) (by decide), h 254 (by decide), h 256 (by decide), h 260 (by decide), ho 0 (by decide) (by decide), ho 1 (by decide) (by decide), ho 2 (by decide) (by decide)]
    | 1, _ =>
      refine ft_ate hax ?_ hP
      show (.inr (4, [.ref (ad' 255), .int (o' 3)]) : va_E) = .inr (4, [.ref (ad 255), .int (o 3)])
      rw [h 255 (by decide), ho 3 (by decide) (by decide)]
    | 2, _ => exact ft_atq hax (fun i hi => congrArg some (h (23 * (3 + pm i) + 0) (by have := hpm i hi; omega)).symm) hP
    | 3, _ =>
      refine ft_ate hax ?_ hP
      show (.inr (5, [.ref (ad' 258), .ref (ad' 257), .int (o' 4), .int (o' 5)]) : va_E) = .inr (5, [.ref (ad 258), .ref (ad 257), .int (o 4), .int (o 5)])
      rw [h 258 (by decide), h 257 (by decide), ho 4 (by decide) (by decide), ho 5 (by decide) (by decide)]
    | 4, _ => exact ft_atq hax (fun i hi => congrArg some (h (262 + 2 * i) (by omega)).symm) hP

    | 5, _ =>
      refine ft_ate hax ?_ hP
      show (.inr (1, [.ref (ad' 259), .int 0, .int (o' 8), .int (o' 6)]) : va_E) = .inr (1, [.ref (ad 259), .int 0, .int (o 8), .int (o 6)])
      rw [h 259 (by decide), ho 8 (by decide) (by decide), ho 6 (by decide) (by decide)]
    | 6, _ =>
      refine ft_ate hax ?_ hP
      show (.inl (k 4, g'.1.1, .inl g'.1.2) : va_E) = .inl (k 4, g.1.1, .inl g.1.2)
      rw [hg.1]
    | 7, _ => exact absurd rfl h1
    | 8, _ => exact absurd rfl h2
    | j + 9, _ =>
      refine ft_ate hax ?_ hP
      show (if j % 2 = 0 then (.inr (7, [.ref (Z 0 (g'.2.2.1 (j / 2))), .ref (ad' (263 + 2 * (j / 2)))]) : va_E) else .inl (k 0, 3, .inl (g'.2.2.2 (j / 2)))) = (if j % 2 = 0 then (.inr (7, [.ref (Z 0 (g.2.2.1 (j / 2))), .ref (ad (263 + 2 * (j / 2)))]) : va_E) else .inl (k 0, 3, .inl (g.2.2.2 (j / 2))))
      rw [hg.2, h (263 + 2 * (j / 2)) (by omega)]

/-- the numbers and rows with the builder's new ones -/
def ft_po261 (o : Nat → Int32) (v : ft_TB) : Nat → Int32 := va_up (va_up o 9 v.1) 7 v.2.1
def ft_pg261 (g : ft_G) (v : ft_TB) : ft_G := (g.1, (v.2.2.1, v.2.2.2), g.2.2)
set_option maxRecDepth 100000 in
theorem ft_grow_261 {D : va_G} {cl : List vw_C} {A : Nat → Prop} {ad : Nat → Nat} {k : Nat → ClassId} {Z : Nat → Nat → Nat} {q : Nat → Nat → Int32} {pm : Nat → Nat} {o : Nat → Int32} {g : ft_G} {H H1 : Heap} {v : Nat × ft_TB} (hP : va_P D cl (ft_WR ad k Z q pm o g) H) (hD : va_D A (ft_WR ad k Z q pm o g)) (hA : ∀ x, H.size ≤ x → A x) (hpm : ∀ i, i < 8 → pm i < 8) (hv : v.1 = ad 261 ∨ H.size ≤ v.1) (hk : ∀ x : Nat, x < H.size → ¬ ft_An 2 (fun j => ad (260 + j)) H.size x → H1[x]? = H[x]?) (hB : va_P D cl (ft_WB (va_up (fun j => ad (260 + j)) 1 v.1) k v.2) H1) : va_P D cl (ft_WR (va_up ad 261 v.1) k Z q pm (ft_po261 o v.2) (ft_pg261 g v.2)) H1 ∧ va_D A (ft_WR (va_up ad 261 v.1) k Z q pm (ft_po261 o v.2) (ft_pg261 g v.2)) := by
  have hlt : ∀ j, j < 292 → ad j < H.size := fun j hj => (hP j _ (ft_get hj)).lt
  have hinj : ∀ i j, i < 292 → j < 292 → ad i = ad j → i = j := fun i j hi hj e => hD.1 i j _ _ (ft_get hi) (ft_get hj) e
  refine ⟨fun j x hx => ?_, fun i j x y hx hy e => ?_, fun j x hx => ?_⟩
  · obtain ⟨hj, rfl⟩ := ft_of hx
    by_cases h1 : j = 260
    · subst h1
      exact hB 0 _ (ft_get' (by decide) rfl)
    · by_cases h2 : j = 261
      · subst h2
        exact hB 1 _ (ft_get' (by decide) rfl)
      · have h0 := hP j _ (ft_get hj)
        have h0 : va_at D cl (ad j, ft_R ad k Z q pm o g j) H1 := h0.kept (hk (ad j) h0.lt (fun hh => by
          rcases hh with ⟨i, hi, e⟩ | e
          · have e : ad j = ad (260 + i) := e
            have := hinj _ _ hj (by omega) e
            omega
          · exact absurd h0.lt (Nat.not_lt.mpr e)))
        have ho : ∀ i, i ≠ 7 → i ≠ 9 → ft_po261 o v.2 i = o i := fun i h7 h9 => (va_up_ne _ _ h7).trans (va_up_ne _ _ h9)
        have hg : (ft_pg261 g v.2).1 = g.1 ∧ (ft_pg261 g v.2).2.2 = g.2.2 := ⟨rfl, rfl⟩
        exact ft_ac_261 (ad' := va_up ad 261 v.1) (fun j hj => va_up_ne _ _ hj) ho hg hpm hj h1 h2 h0
  · obtain ⟨hi, rfl⟩ := ft_of hx
    obtain ⟨hj, rfl⟩ := ft_of hy
    have e : va_up ad 261 v.1 i = va_up ad 261 v.1 j := e
    by_cases h1 : i = 261
    · by_cases h2 : j = 261
      · rw [h1, h2]
      · subst h1
        rw [va_up_self, va_up_ne _ _ h2] at e
        rcases hv with hv | hv
        · exact hinj _ _ hi hj (hv.symm.trans e)
        · have := hlt j hj; omega
    · by_cases h2 : j = 261
      · subst h2
        rw [va_up_self, va_up_ne _ _ h1] at e
        rcases hv with hv | hv
        · exact hinj _ _ hi hj (e.trans hv)
        · have := hlt i hi; omega
      · rw [va_up_ne _ _ h1, va_up_ne _ _ h2] at e
        exact hinj _ _ hi hj e
  · obtain ⟨hj, rfl⟩ := ft_of hx
    show A (va_up ad 261 v.1 j)
    by_cases h1 : j = 261
    · subst h1
      rw [va_up_self]
      rcases hv with hv | hv
      · rw [hv]; exact hD.2 261 _ (ft_get (by decide))
      · exact hA _ hv
    · rw [va_up_ne _ _ h1]; exact hD.2 j _ (ft_get hj)
/-- its Squares and Trucks stand where they stood -/
theorem ft_sqs_261 {D : va_G} {ad : Nat → Nat} {b : Nat} {k : Nat → ClassId} {Z : Nat → Nat → Nat} {q : Nat → Nat → Int32} {pm : Nat → Nat} {o : Nat → Int32} {g : ft_G} {H : Heap} {s : Nat} (hP : va_P D vwCl (ft_WR (va_up ad 261 b) k Z q pm o g) H) (hs : s < 11) : va_P D vwCl (ft_WS (ft_sq ad s) k (q s)) H := by
  have h := ft_R_S hP hs
  intro j x hx
  obtain ⟨hj, rfl⟩ := ft_of hx
  exact ft_S_ad (f := ft_sq (va_up ad 261 b) s) (f' := ft_sq ad s) (fun y hy => (va_up_ne ad b (show 23 * s + y ≠ 261 by omega)).symm) hj (h j _ (ft_get hj))
theorem ft_D_261 {A : Nat → Prop} {ad : Nat → Nat} {k : Nat → ClassId} {Z : Nat → Nat → Nat} {q : Nat → Nat → Int32} {pm : Nat → Nat} {o : Nat → Int32} {g : ft_G} (hD : va_D A (ft_WR ad k Z q pm o g)) : va_D A (ft_WB (fun j => ad (260 + j)) k (o 9, o 7, g.2.1.1, g.2.1.2)) :=
  ft_D_sub hD (fun j => 260 + j) (fun j hj => by omega) (fun _ _ _ _ h => by omega) (fun _ _ => rfl)
theorem ft_up_261 (ad : Nat → Nat) : va_up ad 261 (ad 261) = ad := funext fun j => by
  by_cases h : j = 261
  · subst h; rw [va_up_self]
  · rw [va_up_ne _ _ h]
theorem ft_upp_261 (ad : Nat → Nat) (a b : Nat) : va_up (va_up ad 261 a) 261 b = va_up ad 261 b := funext fun j => by
  by_cases h : j = 261
  · subst h; rw [va_up_self, va_up_self]
  · rw [va_up_ne _ _ h, va_up_ne _ _ h, va_up_ne _ _ h]
theorem ft_fA_261 {ad : Nat → Nat} {b sz n : Nat} (hbb : b = ad 261 ∨ sz ≤ b) (hn : sz ≤ n) : ∀ x, ft_An 2 (fun j => va_up ad 261 b (260 + j)) n x → ft_An 292 ad sz x := by
  intro x hx
  rcases hx with ⟨i, hi, e⟩ | e
  · match i, hi with
    | 0, _ => exact Or.inl ⟨260, by decide, e.trans (va_up_ne _ _ (by decide))⟩
    | 1, _ =>
      have e : x = b := e.trans (va_up_self _ _ _)
      rcases hbb with hbb | hbb
      · exact Or.inl ⟨261, by decide, e.trans hbb⟩
      · exact Or.inr (by omega)
  · exact Or.inr (Nat.le_trans hn e)
theorem ft_bb_261 {ad : Nat → Nat} {b sz n v : Nat} (hbb : b = ad 261 ∨ sz ≤ b) (hn : sz ≤ n) (hv : v = va_up ad 261 b 261 ∨ n ≤ v) : v = ad 261 ∨ sz ≤ v := by
  rw [va_up_self] at hv
  rcases hv with h | h
  · rw [h]; exact hbb
  · exact Or.inr (Nat.le_trans hn h)
theorem ft_same_261 {D : va_G} {cl : List vw_C} {A : Nat → Prop} {ad : Nat → Nat} {k : Nat → ClassId} {Z : Nat → Nat → Nat} {q : Nat → Nat → Int32} {pm : Nat → Nat} {o : Nat → Int32} {g : ft_G} {H H1 : Heap} {v : ft_TB} (hP : va_P D cl (ft_WR ad k Z q pm o g) H) (hD : va_D A (ft_WR ad k Z q pm o g)) (hA : ∀ x, H.size ≤ x → A x) (hpm : ∀ i, i < 8 → pm i < 8) (hk : ∀ x : Nat, x < H.size → ¬ ft_A 2 (fun j => ad (260 + j)) x → H1[x]? = H[x]?) (hB : va_P D cl (ft_WB (fun j => ad (260 + j)) k v) H1) : va_P D cl (ft_WR ad k Z q pm (ft_po261 o v) (ft_pg261 g v)) H1 ∧ va_D A (ft_WR ad k Z q pm (ft_po261 o v) (ft_pg261 g v)) := by
  have h := ft_grow_261 (v := (ad 261, v)) hP hD hA hpm (Or.inl rfl) (fun x hx hn => hk x hx (fun h => hn (Or.inl h))) (ft_cast hB (by rw [show (ad 261, v).1 = (fun j => ad (260 + j)) 1 from rfl, ft_up1]))
  rw [show va_up ad 261 (ad 261, v).1 = ad from ft_up_261 ad] at h
  exact h
theorem ft_sbA_261 {ad : Nat → Nat} : ∀ x, ft_A 2 (fun j => ad (260 + j)) x → ft_A 292 ad x := by
  intro x ⟨i, hi, e⟩
  exact ⟨260 + i, by omega, e⟩
theorem ft_same0_261 {D : va_G} {cl : List vw_C} {A : Nat → Prop} {ad : Nat → Nat} {k : Nat → ClassId} {Z : Nat → Nat → Nat} {q : Nat → Nat → Int32} {pm : Nat → Nat} {o : Nat → Int32} {g : ft_G} {H H1 : Heap} {v : ft_TB} (hP : va_P D cl (ft_WR ad k Z q pm o g) H) (hD : va_D A (ft_WR ad k Z q pm o g)) (hpm : ∀ i, i < 8 → pm i < 8) (hk : ∀ x : Nat, x < H.size → ¬ ft_A 2 (fun j => ad (260 + j)) x → H1[x]? = H[x]?) (hB : va_P D cl (ft_WB (fun j => ad (260 + j)) k v) H1) : va_P D cl (ft_WR ad k Z q pm (ft_po261 o v) (ft_pg261 g v)) H1 ∧ va_D A (ft_WR ad k Z q pm (ft_po261 o v) (ft_pg261 g v)) :=
  ⟨(ft_same_261 hP (hD.weaken (fun _ _ _ _ => trivial)) (fun _ _ => trivial) hpm hk hB).1, ft_D_va hD _⟩
/-- what the builder is known to be: its text has c ≤ n letters, its row 16, 34 or 70 places that hold bytes -/
def ft_ok261 (o : Nat → Int32) (g : ft_G) (n : Nat) : Prop := (∃ c : Nat, c ≤ n ∧ o 7 = nI c ∧ c ≤ g.2.1.1) ∧ (g.2.1.1 = 16 ∨ g.2.1.1 = 34 ∨ g.2.1.1 = 70) ∧ sb_Fit g.2.1.2
theorem ft_ok261.mono {o : Nat → Int32} {g : ft_G} {n n' : Nat} (h : ft_ok261 o g n) (hn : n ≤ n') : ft_ok261 o g n' := by
  obtain ⟨⟨c, h1, h2⟩, h3⟩ := h
  exact ⟨⟨c, Nat.le_trans h1 hn, h2⟩, h3⟩
theorem ft_ok261.cnt {o : Nat → Int32} {g : ft_G} {n : Nat} (h : ft_ok261 o g n) (hn : n ≤ 70) : o 7 = nI (tn (o 7)) ∧ tn (o 7) ≤ n ∧ tn (o 7) ≤ g.2.1.1 ∧ g.2.1.1 ≤ 70 := by
  obtain ⟨⟨c, h1, h2, h3⟩, h4, -⟩ := h
  have e : tn (o 7) = c := by rw [h2]; exact nI_clamp (by omega)
  rw [e]
  exact ⟨h2, h1, h3, by omega⟩
theorem ft_ok261.gc {o : Nat → Int32} {g : ft_G} {n m : Nat} (h : ft_ok261 o g n) (hm : m ≤ 70) : ft_gcap m g.2.1.1 ≤ 150 := by
  obtain ⟨-, h4, -⟩ := h
  unfold ft_gcap
  split <;> omega
/-- a letter put behind it; a number; the empty text -/
def ft_oc261 (o : Nat → Int32) (g : ft_G) (x : Int32) : (Nat → Int32) × ft_G := (ft_po261 o (ft_apc (tn (o 7)) x (o 9, o 7, g.2.1.1, g.2.1.2)), ft_pg261 g (ft_apc (tn (o 7)) x (o 9, o 7, g.2.1.1, g.2.1.2)))
def ft_oi261 (o : Nat → Int32) (g : ft_G) (x : Int32) : (Nat → Int32) × ft_G := (ft_po261 o (ft_api (tn (o 7)) (tn x) (o 9, o 7, g.2.1.1, g.2.1.2)), ft_pg261 g (ft_api (tn (o 7)) (tn x) (o 9, o 7, g.2.1.1, g.2.1.2)))
def ft_oz261 (o : Nat → Int32) (g : ft_G) : (Nat → Int32) × ft_G := (ft_po261 o (s_J4_setLength_d00df_0 (o 9, o 7, g.2.1.1, g.2.1.2) 0), ft_pg261 g (s_J4_setLength_d00df_0 (o 9, o 7, g.2.1.1, g.2.1.2) 0))
theorem ft_ok261.en {o : Nat → Int32} {g : ft_G} {n m : Nat} (h : ft_ok261 o g n) (hn : n ≤ 70) (hm : m ≤ 70) (hd : m ≤ tn (o 7) + 11) : ((ft_en m (o 9, o 7, g.2.1.1, g.2.1.2)).2.2.1 = 16 ∨ (ft_en m (o 9, o 7, g.2.1.1, g.2.1.2)).2.2.1 = 34 ∨ (ft_en m (o 9, o 7, g.2.1.1, g.2.1.2)).2.2.1 = 70) ∧ sb_Fit (ft_en m (o 9, o 7, g.2.1.1, g.2.1.2)).2.2.2 := by
  obtain ⟨e1, e2, e3, e4⟩ := h.cnt hn
  obtain ⟨-, h4, h5⟩ := h
  unfold ft_en
  split
  · exact ⟨h4, h5⟩
  · rename_i hne
    have hne : ¬ m ≤ g.2.1.1 := hne
    refine ⟨?_, fun j => ?_⟩
    · show ft_gcap m g.2.1.1 = 16 ∨ ft_gcap m g.2.1.1 = 34 ∨ ft_gcap m g.2.1.1 = 70
      unfold ft_gcap
      split <;> omega
    · show fits .byte (.int (va_cpy g.2.1.2 (fun _ => 0) 0 0 g.2.1.1 j)) = true
      by_cases hj : j < g.2.1.1
      · rw [pk_cpy_in (Nat.zero_le _) (by omega)]; exact h5 _
      · rw [pk_cpy_out (Or.inr (by omega))]; rfl
theorem ft_ok261.c {o : Nat → Int32} {g : ft_G} {n : Nat} {x : Int32} (h : ft_ok261 o g n) (hn : n + 1 ≤ 70) : ft_ok261 (ft_oc261 o g x).1 (ft_oc261 o g x).2 (n + 1) := by
  obtain ⟨e1, e2, e3, e4⟩ := h.cnt (by omega)
  obtain ⟨h6, h7⟩ := h.en (m := tn (o 7) + 1) (by omega) (by omega) (by omega)
  refine ⟨⟨tn (o 7) + 1, by omega, ?_, ft_en_r⟩, h6, fun j => ?_⟩
  · show o 7 + 1 = _
    exact (congrArg (· + 1) e1).trans (nI_1 _)
  · show fits .byte (.int (va_up _ _ _ j)) = true
    unfold va_up
    split
    · exact ft_b8_fit _
    · exact h7 j
theorem ft_ok261.i {o : Nat → Int32} {g : ft_G} {n d : Nat} {x : Int32} (h : ft_ok261 o g n) (hd : sb_dg (tn x) ≤ d) (hn : n + d ≤ 70) : ft_ok261 (ft_oi261 o g x).1 (ft_oi261 o g x).2 (n + d) := by
  obtain ⟨e1, e2, e3, e4⟩ := h.cnt (by omega)
  have h10 := sb_dg_in (tn x)
  obtain ⟨h6, h7⟩ := h.en (m := tn (o 7) + sb_dg (tn x)) (by omega) (by omega) (by omega)
  exact ⟨⟨tn (o 7) + sb_dg (tn x), by omega, rfl, ft_en_r⟩, h6, ft_dgs_fit h7⟩
theorem ft_ok261.z {o : Nat → Int32} {g : ft_G} {n : Nat} (h : ft_ok261 o g n) : ft_ok261 (ft_oz261 o g).1 (ft_oz261 o g).2 0 := by
  obtain ⟨-, h4, h5⟩ := h
  have e : (s_J4_setLength_d00df_0 (o 9, o 7, g.2.1.1, g.2.1.2) 0).2 = (0, g.2.1.1, g.2.1.2) := by
    unfold s_J4_setLength_d00df_0 s_J5_setLength_d00df_0
    split <;> rfl
  refine ⟨⟨0, Nat.le_refl _, ?_, Nat.zero_le _⟩, ?_, ?_⟩
  · show (s_J4_setLength_d00df_0 (o 9, o 7, g.2.1.1, g.2.1.2) 0).2.1 = _
    rw [e]; rfl
  · show (s_J4_setLength_d00df_0 (o 9, o 7, g.2.1.1, g.2.1.2) 0).2.2.1 = 16 ∨ (s_J4_setLength_d00df_0 (o 9, o 7, g.2.1.1, g.2.1.2) 0).2.2.1 = 34 ∨ (s_J4_setLength_d00df_0 (o 9, o 7, g.2.1.1, g.2.1.2) 0).2.2.1 = 70
    rw [e]; exact h4
  · show sb_Fit (s_J4_setLength_d00df_0 (o 9, o 7, g.2.1.1, g.2.1.2) 0).2.2.2
    rw [e]; exact h5
