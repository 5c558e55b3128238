/-! append, with or without growth; n: how long the text is -/
def ft_Ph (D : va_G) (k : Nat → ClassId) (Z : Nat → Nat → Nat) (A : Nat → Prop) (av : List Value) (ws : va_W) (sz : Nat) : Array Value → State → Prop := va_Pc av (fun U => va_P D vwCl ws U.heap ∧ ft_E D k Z A U ∧ va_D (fun _ => True) ws ∧ sz ≤ U.heap.size)
theorem ft_Ph.blind {D : va_G} {k : Nat → ClassId} {Z : Nat → Nat → Nat} {A : Nat → Prop} {av : List Value} {ws : va_W} {sz : Nat} : FrameBlind (ft_Ph D k Z A av ws sz) := fun _ U _ _ q => ⟨q.1, q.2.1, q.2.2.1.same (u := U) rfl rfl, q.2.2.2⟩
theorem ft_preVg' {D : va_G} {k : Nat → ClassId} {s : State} {H : Heap} {C : String} {T : u_T} {N b ci : Nat} {As : List Value} {ws : va_W} {fs : List Value} {A : Nat → Prop} {sz : Nat} (hK : ft_K D k s) (hP : va_P D vwCl ws H) (hD : va_D A ws) (hz : sz ≤ H.size) (hc : vwCl[ci]? = some (C, T, N)) (h0 : ws[0]? = some (b, .inr (ci, fs))) : PreV s H C b (ft_Pg D k (.ref b :: As) ws sz) As :=
  ⟨ft_Pg.blind, va_recv hK.1 hP hc h0, fun U hU hW => ⟨rfl, by rw [hU]; exact hP, hK.warm hW, hD.weaken (fun _ _ _ _ => trivial), by rw [hU]; exact hz⟩⟩
theorem ft_preVh' {D : va_G} {k : Nat → ClassId} {Z : Nat → Nat → Nat} {A B A' : Nat → Prop} {s : State} {H : Heap} {locs : List Loc} {C : String} {T : u_T} {N b ci : Nat} {As : List Value} {ws : va_W} {fs : List Value} {sz : Nat} (hE : ft_E D k Z A s) (hS : va_S A s.heap H locs) (hAB : ∀ q, B q → A q) (hP : va_P D vwCl ws H) (hD : va_D A' ws) (hz : sz ≤ H.size) (hc : vwCl[ci]? = some (C, T, N)) (h0 : ws[0]? = some (b, .inr (ci, fs))) : PreV s H C b (ft_Ph D k Z B (.ref b :: As) ws sz) As :=
  ⟨ft_Ph.blind, va_recv hE.1.1 hP hc h0, fun U hU hW => ⟨rfl, by rw [hU]; exact hP, hE.go hS hAB hU hW, hD.weaken (fun _ _ _ _ => trivial), by rw [hU]; exact hz⟩⟩
/-- the world behind it: the row stands where it stood, or is new -/
def ft_Bq (D : va_G) (ad : Nat → Nat) (k : Nat → ClassId) (sz : Nat) (v : Nat × ft_TB) (t : State) : Prop := (v.1 = ad 1 ∨ sz ≤ v.1) ∧ va_P D vwCl (ft_WB (va_up ad 1 v.1) k v.2) t.heap
theorem ft_up1 (ad : Nat → Nat) : va_up ad 1 (ad 1) = ad := funext fun j => by
  by_cases h : j = 1
  · subst h; rw [va_up_self]
  · rw [va_up_ne _ _ h]
/-- room for q letters: the row and its bytes -/
def ft_en (q : Nat) (u : ft_TB) : ft_TB := if q ≤ u.2.2.1 then u else (u.1, u.2.1, ft_gcap q u.2.2.1, va_cpy u.2.2.2 (fun _ => 0) 0 0 u.2.2.1)
theorem ft_en_r {q : Nat} {u : ft_TB} : q ≤ (ft_en q u).2.2.1 := by
  unfold ft_en
  split
  · assumption
  · exact ft_gcap_q (by omega)
theorem ft_en_c {q : Nat} {u : ft_TB} : (ft_en q u).2.1 = u.2.1 := by unfold ft_en; split <;> rfl
theorem ft_en_m {q : Nat} {u : ft_TB} (h : u.2.2.1 ≤ 150) (hg : ft_gcap q u.2.2.1 ≤ 150) : (ft_en q u).2.2.1 ≤ 150 := by unfold ft_en; split <;> assumption
def ft_apc (n : Nat) (c : Int32) (u : ft_TB) : ft_TB := ((ft_en (n + 1) u).1, u.2.1 + 1, (ft_en (n + 1) u).2.2.1, va_up (ft_en (n + 1) u).2.2.2 n (ft_b8 c.toInt8.toInt32))
theorem ft_An_le {n : Nat} {ad : Nat → Nat} {sz sz' : Nat} (hz : sz ≤ sz') : ∀ q, ft_An n ad sz' q → ft_An n ad sz q := by
  intro q h
  rcases h with h | h
  · exact Or.inl h
  · exact Or.inr (Nat.le_trans hz h)

set_option maxHeartbeats 4000000 in
set_option maxRecDepth 100000 in
theorem c_J5_append_3fe6f (l : Launch) (dC : va_G) (Z : Nat → Nat → Nat) (ad : Nat → Nat) (k : Nat → ClassId) (u : ft_TB) (x1 : Int32) (n sz : Nat) (h1 : u.2.1 = nI n) (h4 : ¬ 255 < x1) (hm : u.2.2.1 ≤ 150) (hg : ft_gcap (n + 1) u.2.2.1 ≤ 150) (hf : sb_Fit u.2.2.2) : Met l yJ5_append_3fe6f wsJ5_append_3fe6f ({ frames := 4, cells := 1, slots := 150, locals := 180 }) (ft_Ph dC k Z (ft_An 2 ad sz) [.ref (ad 0), .int x1] (ft_WB ad k u) sz) (va_Qr (fun v : Nat × ft_TB => v.2 = ft_apc n x1 u) (fun v a t => a = ad 0 ∧ ft_Bq dC ad k sz v t) (ft_An 2 ad sz)) 1 150 (ft_An 2 ad sz) := by
  refine va_MetF (cc := cJ5_append_3fe6f) (maxL := 2) (ret := (some (.object "java/lang/AbstractStringBuilder"))) (by decide +kernel) rfl ?_
  intro p e s m args below meth c s₁ B hml hv
  obtain ⟨hargs, hP, hE, hD0, hsz⟩ := hv
  have hK := hE.1
  subst hargs
  have hx := B.exec
  have hb := B.bytes
  have hr := B.returns
  have hts := atoms_spec (ws := wsJ5_append_3fe6f) B.pre
  have hown : s.vm.findClass RJ5 = some m.cls := findClass_of_methodNamed B.named
  have hlocks := B.notSynchronized
  have hD : va_D (ft_An 2 ad sz) (ft_WB ad k u) := (ft_D_self hD0).weaken (fun _ _ _ h => Or.inl h)
  have hS : va_S (ft_An 2 ad sz) s.heap s.heap [] := va_S.rf
  have hl := lv_entry ([.ref (ad 0), .int x1]) (n := 2) (Nat.le_of_ble_eq_true rfl)
  rw [lg_entry_eq]
  generalize (lg_sl ([.ref (ad 0), .int x1]) ++ List.replicate (2 - (lg_sl ([.ref (ad 0), .int x1])).length) Slot.unset).toArray = ls at hl ⊢
  have hl : lv_has ls 2 [(0, .ref (ad 0)), (1, .int (x1))] := hl
  have tail : ∀ (ad' : Nat → Nat) (u' : ft_TB) (H : Heap) (locs : List Loc) (h0 : ad' 0 = ad 0) (hb1 : ad' 1 = ad 1 ∨ sz ≤ ad' 1) (hup : va_up ad 1 (ad' 1) = ad') (hu' : u' = ft_en (n + 1) u) (hP : va_P dC vwCl (ft_WB ad' k u') H) (hD : va_D (ft_An 2 ad sz) (ft_WB ad' k u')) (hS : va_S (ft_An 2 ad sz) s.heap H locs), W p l e (headSpec wsJ5_append_3fe6f ({ frames := 4, cells := 1, slots := 150, locals := 180 })).room s m ([.ref (ad 0), .int x1] : List Value).toArray below meth c H locs 1 150 (MQ below (va_Qr (fun v : Nat × ft_TB => v.2 = ft_apc n x1 u) (fun v a t => a = ad 0 ∧ ft_Bq dC ad k sz v t) (ft_An 2 ad sz)) ([.ref (ad 0), .int x1] : List Value).toArray s 1 150 (ft_An 2 ad sz)) (F0 m 10 ls []) := by
    intro ad' u' H locs h0 hb1 hup hu' hP hD hS
    have h1 : u'.2.1 = nI n := by rw [hu', ft_en_c]; exact h1
    have h2 : n < u'.2.2.1 := by rw [hu']; exact ft_en_r
    have h3 : u'.2.2.1 ≤ 65536 := Nat.le_trans (by rw [hu']; exact ft_en_m hm hg) (by decide)
    have hfin : (u'.1, u'.2.1 + 1, u'.2.2.1, va_up u'.2.2.2 (tn u'.2.1) (ft_b8 x1.toInt8.toInt32)) = ft_apc n x1 u := by
      rw [show tn u'.2.1 = n by rw [h1]; exact nI_clamp (by omega), hu']
      show _ = (_, _, _, _)
      rw [ft_en_c]
    have hl : lv_has ls 2 [(0, .ref (ad' 0)), (1, .int (x1))] := by rw [h0]; exact hl
    have hP : va_P dC vwCl (ft_WB ad' k (u'.1, u'.2.1, u'.2.2.1, u'.2.2.2)) H := hP
    have hD : va_D (ft_An 2 ad sz) (ft_WB ad' k (u'.1, u'.2.1, u'.2.2.1, u'.2.2.2)) := hD
    refine lv_aload_n hx hb dJ5_append_3fe6f_10 rfl (lv_at hl 0 rfl) ?_
    refine vp_callSi (va_Run.run (va_runU (As := []) (rest := []) ⟨hx, hb, hml, hown, hts⟩ (c_J5_isLatin1_aae02 l dC Z (ft_An 2 ad sz) ad' k (u'.1, u'.2.1, u'.2.2.1, u'.2.2.2)) (va_cwU 0 hts gJ5_append_3fe6f_J5_isLatin1_aae02_u83J4 rfl rfl rfl rfl (by decide +kernel) ⟨Nat.le_of_ble_eq_true rfl, Nat.le_of_ble_eq_true rfl⟩) (ft_preVe hE hS (fun _ h => h) hP (ci := 1) rfl (ft_get' (by decide) rfl)) rfl rfl hl.1 rfl (lv_room (Nat.le_of_ble_eq_true rfl)) dJ5_append_3fe6f_11 ⟨Nat.le_of_ble_eq_true rfl, Nat.le_of_ble_eq_true rfl⟩)) (fun z hz => ?_)
    subst hz
    rw [show (s_J5_isLatin1_aae02 (u'.1, u'.2.1, u'.2.2.1, u'.2.2.2)) = 1 from rfl]
    refine lv_if_eq (tgt := 45) hx hb dJ5_append_3fe6f_14 (by decide) (fun c_14 => ?_) (fun c_14 => ?_)
    · skip
      first | exact absurd c_14 (by decide) | exact absurd (by decide) c_14
    · skip
      refine lv_iload_n hx hb dJ5_append_3fe6f_17 rfl (lv_at hl 1 rfl) ?_
      refine vp_callSi (va_Run.run (va_runS (As := [.int (x1)]) (rest := []) ⟨hx, hb, hml, hown, hts⟩ (c_J1_canEncode_fc78d l x1) (va_cwS 1 hts gJ5_append_3fe6f_J1_canEncode_fc78d rfl rfl rfl (by decide +kernel) ⟨Nat.le_of_ble_eq_true rfl, Nat.le_of_ble_eq_true rfl⟩) ft_preSn rfl rfl hl.1 rfl (lv_room (Nat.le_of_ble_eq_true rfl)) dJ5_append_3fe6f_18 ⟨Nat.le_of_ble_eq_true rfl, Nat.le_of_ble_eq_true rfl⟩)) (fun z hz => ?_)
      subst hz
      rw [show s_J1_canEncode_fc78d x1 = 1 from if_neg h4]
      refine lv_if_eq (tgt := 45) hx hb dJ5_append_3fe6f_21 (by decide) (fun c_21 => ?_) (fun c_21 => ?_)
      · skip
        first | exact absurd c_21 (by decide) | exact absurd (by decide) c_21
      · skip
        refine lv_aload_n hx hb dJ5_append_3fe6f_24 rfl (lv_at hl 0 rfl) ?_
        refine va_get (D := dC) (ci := 1) (v := .ref (ad' 1)) (C := RJ4) (T := TJ4) (N := 4) hx hb hts (by decide +kernel) hown hK.1 hP 0 (ft_get' (by decide) rfl) rfl 0 (by decide) (hts (.fieldLink RJ5 15 "java/lang/AbstractStringBuilder" "value" "[B") (by decide +kernel)) (fun _ h9 => h9) rfl dJ5_append_3fe6f_25 ?_
        refine lv_aload_n hx hb dJ5_append_3fe6f_28 rfl (lv_at hl 0 rfl) ?_
        refine lv_dup hx hb dJ5_append_3fe6f_29 rfl ?_
        refine va_get (D := dC) (ci := 1) (v := .int (u'.2.1)) (C := RJ4) (T := TJ4) (N := 4) hx hb hts (by decide +kernel) hown hK.1 hP 0 (ft_get' (by decide) rfl) rfl 3 (by decide) (hts (.fieldLink RJ5 79 "java/lang/AbstractStringBuilder" "count" "I") (by decide +kernel)) (fun _ h9 => h9) rfl dJ5_append_3fe6f_30 ?_
        refine lv_dup_x1 hx hb dJ5_append_3fe6f_33 rfl rfl ?_
        refine lv_iconst (v := 1) hx hb dJ5_append_3fe6f_34 (by decide) ?_
        refine lv_iadd hx hb dJ5_append_3fe6f_35 ?_
        refine va_put (D := dC) (ci := 1) (v := .int (u'.2.1 + 1)) (ty := .int) (C := RJ4) (T := TJ4) (N := 4) hx hb hts (by decide +kernel) tyJ4 tyJ4_ok nmJ4 hown hK.1 hP hD hS 0 (ft_get' (by decide) rfl) rfl 3 (by decide) (hts (.fieldLink RJ5 79 "java/lang/AbstractStringBuilder" "count" "I") (by decide +kernel)) (fun _ h9 => h9) rfl (by decide +kernel) rfl rfl (Nat.le_of_ble_eq_true rfl) dJ5_append_3fe6f_36 (fun H locs hP hD hS => ?_)
        have hP := ft_cast hP (ft_B_p3 (ad := ad') (k := k))
        have hD := ft_castD hD (ft_B_p3 (ad := ad') (k := k))
        have hP : va_P dC vwCl (ft_WB ad' k (u'.1, (u'.2.1 + 1), u'.2.2.1, u'.2.2.2)) H := hP
        have hD : va_D (ft_An 2 ad sz) (ft_WB ad' k (u'.1, (u'.2.1 + 1), u'.2.2.1, u'.2.2.2)) := hD
        refine lv_iload_n hx hb dJ5_append_3fe6f_39 rfl (lv_at hl 1 rfl) ?_
        refine lv_i2b (v := x1.toInt8.toInt32) hx hb dJ5_append_3fe6f_40 rfl ?_
        have h_41 : vp_in u'.2.1 u'.2.2.1 := by exact ft_cin h1 h2 h3
        refine va_bast hx hb hK.1 hP hD hS 1 4 (ft_get' (by decide) rfl) rfl h_41 dJ5_append_3fe6f_41 (fun H locs hP hD hS => ?_)
        have hP := ft_cast hP (ft_B_s (k := k) (ad := ad'))
        have hD := ft_castD hD (ft_B_s (k := k) (ad := ad'))
        have hP : va_P dC vwCl (ft_WB ad' k (u'.1, (u'.2.1 + 1), u'.2.2.1, va_up u'.2.2.2 (tn u'.2.1) (ft_b8 x1.toInt8.toInt32))) H := hP
        have hD : va_D (ft_An 2 ad sz) (ft_WB ad' k (u'.1, (u'.2.1 + 1), u'.2.2.1, va_up u'.2.2.2 (tn u'.2.1) (ft_b8 x1.toInt8.toInt32))) := hD
        refine lv_goto (tgt := 75) hx hb dJ5_append_3fe6f_42 (by decide) ?_
        refine lv_aload_n hx hb dJ5_append_3fe6f_75 rfl (lv_at hl 0 rfl) ?_
        exact W.aret (v := .ref (ad' 0)) hx hb hr (Or.inl ⟨_, rfl⟩) (Or.inr ⟨_, rfl⟩) (fun t ht hW => ⟨⟨(ad' 1, (u'.1, (u'.2.1 + 1), u'.2.2.1, va_up u'.2.2.2 (tn u'.2.1) (ft_b8 x1.toInt8.toInt32))), ad' 0, rfl, hfin, h0, hb1, ft_heap ht (ft_cast hP (by show _ = ft_WB (va_up ad 1 (ad' 1)) k _; rw [hup]))⟩, hS.F ht⟩) hS.2.2 dJ5_append_3fe6f_76
  refine lv_aload_n hx hb dJ5_append_3fe6f_0 rfl (lv_at hl 0 rfl) ?_
  refine lv_aload_n hx hb dJ5_append_3fe6f_1 rfl (lv_at hl 0 rfl) ?_
  refine va_get (D := dC) (ci := 1) (v := .int (u.2.1)) (C := RJ4) (T := TJ4) (N := 4) hx hb hts (by decide +kernel) hown hK.1 hP 0 (ft_get' (by decide) rfl) rfl 3 (by decide) (hts (.fieldLink RJ5 79 "java/lang/AbstractStringBuilder" "count" "I") (by decide +kernel)) (fun _ h9 => h9) rfl dJ5_append_3fe6f_2 ?_
  refine lv_iconst (v := 1) hx hb dJ5_append_3fe6f_5 (by decide) ?_
  refine lv_iadd hx hb dJ5_append_3fe6f_6 ?_
  have hn1 : u.2.1 + 1 = nI (n + 1) := by rw [h1, nI_1]
  by_cases hc : n + 1 ≤ u.2.2.1
  · refine va_csv (va_Run.run (va_runU (As := [.int (u.2.1 + 1)]) (rest := []) ⟨hx, hb, hml, hown, hts⟩ (c_J5_ensureCapacityInternal_d00df_o l dC ad k u (u.2.1 + 1) (ft_cap (n := 0) hn1 hc (by omega))) (va_cwU 1 hts gJ5_append_3fe6f_J5_ensureCapacityInternal_d00df_u100J4 rfl rfl rfl rfl (by decide +kernel) ⟨Nat.le_of_ble_eq_true rfl, Nat.le_of_ble_eq_true rfl⟩) (ft_preVc hK hP (ci := 1) rfl (ft_get' (by decide) rfl)) rfl rfl hl.1 rfl (lv_room (Nat.le_of_ble_eq_true rfl)) dJ5_append_3fe6f_7 ⟨Nat.le_of_ble_eq_true rfl, Nat.le_of_ble_eq_true rfl⟩)) (fun _ => ?_)
    refine W.widen (k := 1) (n := 150) (by decide) (by decide) ?_
    exact tail ad u s.heap [] rfl (Or.inl rfl) (ft_up1 ad) (by unfold ft_en; rw [if_pos hc]) hP hD hS
  · refine va_callv (va_runU (As := [.int (u.2.1 + 1)]) (rest := []) ⟨hx, hb, hml, hown, hts⟩ (c_J5_ensureCapacityInternal_d00df_g l dC ad k u (u.2.1 + 1) (n + 1) s.heap.size hn1 (by omega) hg hf) (va_cwU 1 hts gJ5_append_3fe6f_J5_ensureCapacityInternal_d00df_u100J4 rfl rfl rfl rfl (by decide +kernel) ⟨Nat.le_of_ble_eq_true rfl, Nat.le_of_ble_eq_true rfl⟩) (ft_preVg' hK hP hD (Nat.le_refl _) (ci := 1) rfl (ft_get' (by decide) rfl)) rfl rfl hl.1 rfl (lv_room (Nat.le_of_ble_eq_true rfl)) dJ5_append_3fe6f_7 ⟨Nat.le_of_ble_eq_true rfl, Nat.le_of_ble_eq_true rfl⟩) hS (fun z9 _ h => ft_An_le hsz z9 h) (fun z9 h => ft_An_le hsz z9 h) (fun b t H1 locs1 ht hvm hw hB hz1 hk1 hS1 => ?_)
    rw [ht] at hB
    refine tail (va_up ad 1 b) _ H1 locs1 (va_up_ne _ _ (by decide)) (Or.inr (by rw [va_up_self]; exact Nat.le_trans hsz hB.1)) (by rw [va_up_self]) (by unfold ft_en; rw [if_neg hc]) hB.2 (ft_Bx_D hP hsz hB.1) hS1

set_option maxHeartbeats 4000000 in
set_option maxRecDepth 100000 in
theorem c_J4_append_cf468 (l : Launch) (dC : va_G) (Z : Nat → Nat → Nat) (ad : Nat → Nat) (k : Nat → ClassId) (u : ft_TB) (x1 : Int32) (n sz : Nat) (h1 : u.2.1 = nI n) (h4 : ¬ 255 < x1) (hm : u.2.2.1 ≤ 150) (hg : ft_gcap (n + 1) u.2.2.1 ≤ 150) (hf : sb_Fit u.2.2.2) : Met l yJ4_append_cf468 wsJ4_append_cf468 ({ frames := 5, cells := 1, slots := 150, locals := 201 }) (ft_Ph dC k Z (ft_An 2 ad sz) [.ref (ad 0), .int x1] (ft_WB ad k u) sz) (va_Qr (fun v : Nat × ft_TB => v.2 = ft_apc n x1 u) (fun v a t => a = ad 0 ∧ ft_Bq dC ad k sz v t) (ft_An 2 ad sz)) 1 150 (ft_An 2 ad sz) := by
  refine va_MetF (cc := cJ4_append_cf468) (maxL := 2) (ret := (some (.object "java/lang/StringBuilder"))) (by decide +kernel) rfl ?_
  intro p e s m args below meth c s₁ B hml hv
  obtain ⟨hargs, hP, hE, hD0, hsz⟩ := hv
  have hK := hE.1
  subst hargs
  have hx := B.exec
  have hb := B.bytes
  have hr := B.returns
  have hts := atoms_spec (ws := wsJ4_append_cf468) B.pre
  have hown : s.vm.findClass RJ4 = some m.cls := findClass_of_methodNamed B.named
  have hlocks := B.notSynchronized
  have hD : va_D (ft_An 2 ad sz) (ft_WB ad k u) := (ft_D_self hD0).weaken (fun _ _ _ h => Or.inl h)
  have hS : va_S (ft_An 2 ad sz) s.heap s.heap [] := va_S.rf
  have hl := lv_entry ([.ref (ad 0), .int x1]) (n := 2) (Nat.le_of_ble_eq_true rfl)
  rw [lg_entry_eq]
  generalize (lg_sl ([.ref (ad 0), .int x1]) ++ List.replicate (2 - (lg_sl ([.ref (ad 0), .int x1])).length) Slot.unset).toArray = ls at hl ⊢
  have hl : lv_has ls 2 [(0, .ref (ad 0)), (1, .int (x1))] := hl
  refine lv_aload_n hx hb dJ4_append_cf468_0 rfl (lv_at hl 0 rfl) ?_
  refine lv_iload_n hx hb dJ4_append_cf468_1 rfl (lv_at hl 1 rfl) ?_
  refine va_callr (va_runSU (As := [.int x1]) (rest := []) (ft_atSB hK) ⟨hx, hb, hml, hown, hts⟩ (c_J5_append_3fe6f l dC Z ad k u x1 n sz h1 h4 hm hg hf) (va_cwSU 1 hts gJ4_append_cf468_J5_append_3fe6f_s50 rfl rfl rfl (by decide +kernel) ⟨Nat.le_of_ble_eq_true rfl, Nat.le_of_ble_eq_true rfl⟩) (ft_preVh' hE hS (fun _ h => h) hP hD hsz (ci := 1) rfl (ft_get' (by decide) rfl)) rfl rfl hl.1 rfl (lv_room (Nat.le_of_ble_eq_true rfl)) dJ4_append_cf468_2 ⟨Nat.le_of_ble_eq_true rfl, Nat.le_of_ble_eq_true rfl⟩) hS (fun z9 _ h => h) (fun z9 h => h) (fun v ra t H1 locs1 ht hvm hw hB hz1 hk1 hS1 => ?_)
  refine lv_pop hx hb dJ4_append_cf468_5 rfl ?_
  refine lv_aload_n hx hb dJ4_append_cf468_6 rfl (lv_at hl 0 rfl) ?_
  refine W.widen (k := 1) (n := 150) (by decide) (by decide) ?_
  exact W.aret (v := .ref (ad 0)) hx hb hr (Or.inl ⟨_, rfl⟩) (Or.inr ⟨_, rfl⟩) (fun t2 ht2 hW => ⟨⟨v, ad 0, rfl, hw, rfl, hB.2.1, ft_heap ht2 (by rw [← ht]; exact hB.2.2)⟩, hS1.F ht2⟩) hS1.2.2 dJ4_append_cf468_7
