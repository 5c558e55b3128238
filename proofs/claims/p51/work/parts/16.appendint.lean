theorem ft_B_joinY {D : va_G} {A : Nat → Prop} {ad : Nat → Nat} {k : Nat → ClassId} {u : ft_TB} {f : Nat → Int32} {H H1 : Heap} (hP : va_P D vwCl (ft_WB ad k u) H) (hD : va_D A (ft_WB ad k u)) (hk : ∀ q : Nat, q < H.size → ¬ ft_A 1 (fun j => ad (1 + j)) q → H1[q]? = H[q]?) (hB : va_P D vwCl (ft_WY (fun j => ad (1 + j)) k (u.2.2.1, f)) H1) : va_P D vwCl (ft_WB ad k (u.1, u.2.1, u.2.2.1, f)) H1 := by
  intro j q hj
  obtain ⟨h1, rfl⟩ := ft_of hj
  match j, h1 with
  | 0, _ =>
    have h0 := hP 0 _ (ft_get' (by decide) rfl)
    exact h0.kept (hk (ad 0) h0.lt (fun h => by
      obtain ⟨j, hj, h⟩ := h
      obtain rfl : j = 0 := by omega
      have h2 : (0 : Nat) = 1 := hD.1 0 1 _ _ (ft_get' (by decide) rfl) (ft_get' (by decide) rfl) h
      omega))
  | 1, _ => exact hB 0 _ (ft_get' (by decide) rfl)
def ft_api (n v : Nat) (u : ft_TB) : ft_TB := ((ft_en (n + sb_dg v) u).1, nI (n + sb_dg v), (ft_en (n + sb_dg v) u).2.2.1, ft_dgs 6 v (n + sb_dg v) (ft_en (n + sb_dg v) u).2.2.2)

set_option maxHeartbeats 4000000 in
set_option maxRecDepth 100000 in
theorem c_J5_append_c97b9 (l : Launch) (dC : va_G) (Z : Nat → Nat → Nat) (ad : Nat → Nat) (k : Nat → ClassId) (u : ft_TB) (x1 : Int32) (n v0 sz : Nat) (h1 : u.2.1 = nI n) (h4 : x1 = nI v0) (hv0 : v0 < 2 ^ 31) (hn : n ≤ 1000) (hm : u.2.2.1 ≤ 150) (hg : ft_gcap (n + sb_dg v0) u.2.2.1 ≤ 150) (hf : sb_Fit u.2.2.2) : Met l yJ5_append_c97b9 wsJ5_append_c97b9 ({ frames := 4, cells := 1, slots := 150, locals := 180 }) (ft_Ph dC k Z (ft_An 2 ad sz) [.ref (ad 0), .int x1] (ft_WB ad k u) sz) (va_Qr (fun v : Nat × ft_TB => v.2 = ft_api n v0 u) (fun v a t => a = ad 0 ∧ ft_Bq dC ad k sz v t) (ft_An 2 ad sz)) 1 150 (ft_An 2 ad sz) := by
  have hdi := sb_dg_in v0
  refine va_MetF (cc := cJ5_append_c97b9) (maxL := 4) (ret := (some (.object "java/lang/AbstractStringBuilder"))) (by decide +kernel) rfl ?_
  intro p e s m args below meth c s₁ B hml hv
  obtain ⟨hargs, hP, hE, hD0, hsz⟩ := hv
  have hK := hE.1
  subst hargs
  have hx := B.exec
  have hb := B.bytes
  have hr := B.returns
  have hts := atoms_spec (ws := wsJ5_append_c97b9) B.pre
  have hown : s.vm.findClass RJ5 = some m.cls := findClass_of_methodNamed B.named
  have hlocks := B.notSynchronized
  have hD : va_D (ft_An 2 ad sz) (ft_WB ad k u) := (ft_D_self hD0).weaken (fun _ _ _ h => Or.inl h)
  have hS : va_S (ft_An 2 ad sz) s.heap s.heap [] := va_S.rf
  have hl := lv_entry ([.ref (ad 0), .int x1]) (n := 4) (Nat.le_of_ble_eq_true rfl)
  rw [lg_entry_eq]
  generalize (lg_sl ([.ref (ad 0), .int x1]) ++ List.replicate (4 - (lg_sl ([.ref (ad 0), .int x1])).length) Slot.unset).toArray = ls at hl ⊢
  have hl : lv_has ls 4 [(0, .ref (ad 0)), (1, .int (x1))] := hl
  have tail : ∀ (ad' : Nat → Nat) (u' : ft_TB) (H : Heap) (locs : List Loc) (ls : Array Slot) (hl : lv_has ls 4 [(0, .ref (ad 0)), (1, .int x1), (3, .int (nI (n + sb_dg v0)))]) (h0 : ad' 0 = ad 0) (hb1 : ad' 1 = ad 1 ∨ sz ≤ ad' 1) (hup : va_up ad 1 (ad' 1) = ad') (hu' : u' = ft_en (n + sb_dg v0) u) (hP : va_P dC vwCl (ft_WB ad' k u') H) (hD : va_D (ft_An 2 ad sz) (ft_WB ad' k u')) (hS : va_S (ft_An 2 ad sz) s.heap H locs), W p l e (headSpec wsJ5_append_c97b9 ({ frames := 4, cells := 1, slots := 150, locals := 180 })).room s m ([.ref (ad 0), .int x1] : List Value).toArray below meth c H locs 1 150 (MQ below (va_Qr (fun v : Nat × ft_TB => v.2 = ft_api n v0 u) (fun v a t => a = ad 0 ∧ ft_Bq dC ad k sz v t) (ft_An 2 ad sz)) ([.ref (ad 0), .int x1] : List Value).toArray s 1 150 (ft_An 2 ad sz)) (F0 m 17 ls []) := by
    intro ad' u' H locs ls hl h0 hb1 hup hu' hP hD hS
    have h2 : n + sb_dg v0 ≤ u'.2.2.1 := by rw [hu']; exact ft_en_r
    have h3 : u'.2.2.1 ≤ 65536 := Nat.le_trans (by rw [hu']; exact ft_en_m hm hg) (by decide)
    have hfin : (u'.1, nI (n + sb_dg v0), u'.2.2.1, ft_dgs 6 v0 (n + sb_dg v0) u'.2.2.2) = ft_api n v0 u := by
      rw [hu']
      rfl
    rw [← h0] at hl
    have hYA : ∀ q, ft_A 1 (fun j => ad' (1 + j)) q → ft_An 2 ad sz q := by
      intro q h
      obtain ⟨j, hj, h⟩ := h
      obtain rfl : j = 0 := by omega
      rcases hb1 with hb1 | hb1
      · exact Or.inl ⟨1, by decide, h.trans hb1⟩
      · exact Or.inr (by rw [h]; exact hb1)
    refine lv_aload_n hx hb dJ5_append_c97b9_17 rfl (lv_at hl 0 rfl) ?_
    refine vp_callSi (va_Run.run (va_runU (As := []) (rest := []) ⟨hx, hb, hml, hown, hts⟩ (c_J5_isLatin1_aae02 l dC Z (ft_An 2 ad sz) ad' k u') (va_cwU 0 hts gJ5_append_c97b9_J5_isLatin1_aae02_u83J4 rfl rfl rfl rfl (by decide +kernel) ⟨Nat.le_of_ble_eq_true rfl, Nat.le_of_ble_eq_true rfl⟩) (ft_preVe hE hS (fun _ h => h) hP (ci := 1) rfl (ft_get' (by decide) rfl)) rfl rfl hl.1 rfl (lv_room (Nat.le_of_ble_eq_true rfl)) dJ5_append_c97b9_18 ⟨Nat.le_of_ble_eq_true rfl, Nat.le_of_ble_eq_true rfl⟩)) (fun z hz => ?_)
    subst hz
    rw [show s_J5_isLatin1_aae02 u' = 1 from rfl]
    refine lv_if_eq (tgt := 37) hx hb dJ5_append_c97b9_21 (by decide) (fun c_21 => absurd c_21 (by decide)) (fun c_21 => ?_)
    refine lv_iload_n hx hb dJ5_append_c97b9_24 rfl (lv_at hl 1 rfl) ?_
    refine lv_iload_n hx hb dJ5_append_c97b9_25 rfl (lv_at hl 2 rfl) ?_
    refine lv_aload_n hx hb dJ5_append_c97b9_26 rfl (lv_at hl 0 rfl) ?_
    refine va_get (D := dC) (ci := 1) (v := .ref (ad' 1)) (C := RJ4) (T := TJ4) (N := 4) hx hb hts (by decide +kernel) hown hK.1 hP 0 (ft_get' (by decide) rfl) rfl 0 (by decide) (hts (.fieldLink RJ5 15 "java/lang/AbstractStringBuilder" "value" "[B") (by decide +kernel)) (fun _ h9 => h9) rfl dJ5_append_c97b9_27 ?_
    refine va_calli (va_runS (As := [.int x1, .int (nI (n + sb_dg v0)), .ref (ad' 1)]) (rest := []) ⟨hx, hb, hml, hown, hts⟩ (c_J6_getChars_ba4f3 l dC Z (fun j => ad' (1 + j)) k (u'.2.2.1, u'.2.2.2) x1 (nI (n + sb_dg v0)) v0 (n + sb_dg v0) h4 hv0 rfl (by omega) h2 h3) (va_cwS 3 hts gJ5_append_c97b9_J6_getChars_ba4f3 rfl rfl rfl (by decide +kernel) ⟨Nat.le_of_ble_eq_true rfl, Nat.le_of_ble_eq_true rfl⟩) (ft_preSf hE hS hYA (ft_B_Y hP) (ft_B_YD hD)) rfl rfl hl.1 rfl (lv_room (Nat.le_of_ble_eq_true rfl)) dJ5_append_c97b9_30 ⟨Nat.le_of_ble_eq_true rfl, Nat.le_of_ble_eq_true rfl⟩) hS (fun z9 _ h => hYA z9 h) (fun z9 h => hYA z9 h) (fun z f t H1 locs1 ht hvm hw hB hz1 hk1 hS1 => ?_)
    rw [ht] at hB
    obtain ⟨-, rfl⟩ := hw
    have hP1 := ft_B_joinY hP hD hk1 hB
    have hD1 : va_D (ft_An 2 ad sz) (ft_WB ad' k (u'.1, u'.2.1, u'.2.2.1, ft_dgs 6 v0 (n + sb_dg v0) u'.2.2.2)) := ft_D_va hD _
    refine lv_pop hx hb dJ5_append_c97b9_33 rfl ?_
    refine lv_goto (tgt := 48) hx hb dJ5_append_c97b9_34 (by decide) ?_
    refine lv_aload_n hx hb dJ5_append_c97b9_48 rfl (lv_at hl 0 rfl) ?_
    refine lv_iload_n hx hb dJ5_append_c97b9_49 rfl (lv_at hl 2 rfl) ?_
    refine va_put (D := dC) (ci := 1) (v := .int (nI (n + sb_dg v0))) (ty := .int) (C := RJ4) (T := TJ4) (N := 4) hx hb hts (by decide +kernel) tyJ4 tyJ4_ok nmJ4 hown hK.1 hP1 hD1 hS1 0 (ft_get' (by decide) rfl) rfl 3 (by decide) (hts (.fieldLink RJ5 79 "java/lang/AbstractStringBuilder" "count" "I") (by decide +kernel)) (fun _ h9 => h9) rfl (by decide +kernel) rfl rfl (Nat.le_of_ble_eq_true rfl) dJ5_append_c97b9_50 (fun H locs hP hD hS => ?_)
    have hP := ft_cast hP (ft_B_p3 (ad := ad') (k := k))
    refine lv_aload_n hx hb dJ5_append_c97b9_53 rfl (lv_at hl 0 rfl) ?_
    exact W.aret (v := .ref (ad' 0)) hx hb hr (Or.inl ⟨_, rfl⟩) (Or.inr ⟨_, rfl⟩) (fun t ht hW => ⟨⟨(ad' 1, (u'.1, nI (n + sb_dg v0), u'.2.2.1, ft_dgs 6 v0 (n + sb_dg v0) u'.2.2.2)), ad' 0, rfl, hfin, h0, hb1, ft_heap ht (ft_cast hP (by show _ = ft_WB (va_up ad 1 (ad' 1)) k _; rw [hup]))⟩, hS.F ht⟩) hS.2.2 dJ5_append_c97b9_54
  refine lv_aload_n hx hb dJ5_append_c97b9_0 rfl (lv_at hl 0 rfl) ?_
  refine va_get (D := dC) (ci := 1) (v := .int u.2.1) (C := RJ4) (T := TJ4) (N := 4) hx hb hts (by decide +kernel) hown hK.1 hP 0 (ft_get' (by decide) rfl) rfl 3 (by decide) (hts (.fieldLink RJ5 79 "java/lang/AbstractStringBuilder" "count" "I") (by decide +kernel)) (fun _ h9 => h9) rfl dJ5_append_c97b9_1 ?_
  refine lv_istore_n (lv' := [(2, .int u.2.1), (0, .ref (ad 0)), (1, .int x1)]) hx hb dJ5_append_c97b9_4 rfl hl (by decide) rfl (fun ls hl => ?_)
  refine lv_iload_n hx hb dJ5_append_c97b9_5 rfl (lv_at hl 0 rfl) ?_
  refine lv_iload_n hx hb dJ5_append_c97b9_6 rfl (lv_at hl 2 rfl) ?_
  refine vp_callSi (va_Run.run (va_runS (As := [.int x1]) (rest := [.int u.2.1]) ⟨hx, hb, hml, hown, hts⟩ (c_J6_stringSize_0f7a4 l x1 (by rw [h4]; exact nI_pos hv0)) (va_cwS 1 hts gJ5_append_c97b9_J6_stringSize_0f7a4 rfl rfl rfl (by decide +kernel) ⟨Nat.le_of_ble_eq_true rfl, Nat.le_of_ble_eq_true rfl⟩) ft_preSn rfl rfl hl.1 rfl (lv_room (Nat.le_of_ble_eq_true rfl)) dJ5_append_c97b9_7 ⟨Nat.le_of_ble_eq_true rfl, Nat.le_of_ble_eq_true rfl⟩)) (fun z hz => ?_)
  have hz2 : z = nI (sb_dg v0) := hz.trans (by rw [h4]; exact ft_size hv0)
  subst hz2
  refine lv_iadd hx hb dJ5_append_c97b9_10 ?_
  have hn1 : u.2.1 + nI (sb_dg v0) = nI (n + sb_dg v0) := by rw [h1, nI_add]
  rw [hn1]
  refine lv_istore_n (lv' := [(3, .int (nI (n + sb_dg v0))), (2, .int u.2.1), (0, .ref (ad 0)), (1, .int x1)]) hx hb dJ5_append_c97b9_11 rfl hl (by decide) rfl (fun ls hl => ?_)
  refine lv_aload_n hx hb dJ5_append_c97b9_12 rfl (lv_at hl 2 rfl) ?_
  refine lv_iload_n hx hb dJ5_append_c97b9_13 rfl (lv_at hl 0 rfl) ?_
  by_cases hc : n + sb_dg v0 ≤ u.2.2.1
  · refine va_csv (va_Run.run (va_runU (As := [.int (nI (n + sb_dg v0))]) (rest := []) ⟨hx, hb, hml, hown, hts⟩ (c_J5_ensureCapacityInternal_d00df_o l dC ad k u (nI (n + sb_dg v0)) (ft_cap (n := 0) rfl hc (by omega))) (va_cwU 1 hts gJ5_append_c97b9_J5_ensureCapacityInternal_d00df_u100J4 rfl rfl rfl rfl (by decide +kernel) ⟨Nat.le_of_ble_eq_true rfl, Nat.le_of_ble_eq_true rfl⟩) (ft_preVc hK hP (ci := 1) rfl (ft_get' (by decide) rfl)) rfl rfl hl.1 rfl (lv_room (Nat.le_of_ble_eq_true rfl)) dJ5_append_c97b9_14 ⟨Nat.le_of_ble_eq_true rfl, Nat.le_of_ble_eq_true rfl⟩)) (fun _ => ?_)
    refine W.widen (k := 1) (n := 150) (by decide) (by decide) ?_
    exact tail ad u s.heap [] ls (lv_sub hl [2, 3, 0] rfl) rfl (Or.inl rfl) (ft_up1 ad) (by unfold ft_en; rw [if_pos hc]) hP hD hS
  · refine va_callv (va_runU (As := [.int (nI (n + sb_dg v0))]) (rest := []) ⟨hx, hb, hml, hown, hts⟩ (c_J5_ensureCapacityInternal_d00df_g l dC ad k u (nI (n + sb_dg v0)) (n + sb_dg v0) s.heap.size rfl (by omega) hg hf) (va_cwU 1 hts gJ5_append_c97b9_J5_ensureCapacityInternal_d00df_u100J4 rfl rfl rfl rfl (by decide +kernel) ⟨Nat.le_of_ble_eq_true rfl, Nat.le_of_ble_eq_true rfl⟩) (ft_preVg' hK hP hD (Nat.le_refl _) (ci := 1) rfl (ft_get' (by decide) rfl)) rfl rfl hl.1 rfl (lv_room (Nat.le_of_ble_eq_true rfl)) dJ5_append_c97b9_14 ⟨Nat.le_of_ble_eq_true rfl, Nat.le_of_ble_eq_true rfl⟩) hS (fun z9 _ h => ft_An_le hsz z9 h) (fun z9 h => ft_An_le hsz z9 h) (fun b t H1 locs1 ht hvm hw hB hz1 hk1 hS1 => ?_)
    rw [ht] at hB
    exact tail (va_up ad 1 b) _ H1 locs1 ls (lv_sub hl [2, 3, 0] rfl) (va_up_ne _ _ (by decide)) (Or.inr (by rw [va_up_self]; exact Nat.le_trans hsz hB.1)) (by rw [va_up_self]) (by unfold ft_en; rw [if_neg hc]) hB.2 (ft_Bx_D hP hsz hB.1) hS1

set_option maxHeartbeats 4000000 in
set_option maxRecDepth 100000 in
theorem c_J4_append_bf812 (l : Launch) (dC : va_G) (Z : Nat → Nat → Nat) (ad : Nat → Nat) (k : Nat → ClassId) (u : ft_TB) (x1 : Int32) (n sz : Nat) (v0 : Nat) (h1 : u.2.1 = nI n) (h4 : x1 = nI v0) (hv0 : v0 < 2 ^ 31) (hn : n ≤ 1000) (hm : u.2.2.1 ≤ 150) (hg : ft_gcap (n + sb_dg v0) u.2.2.1 ≤ 150) (hf : sb_Fit u.2.2.2) : Met l yJ4_append_bf812 wsJ4_append_bf812 ({ frames := 5, cells := 1, slots := 150, locals := 203 }) (ft_Ph dC k Z (ft_An 2 ad sz) [.ref (ad 0), .int x1] (ft_WB ad k u) sz) (va_Qr (fun v : Nat × ft_TB => v.2 = ft_api n v0 u) (fun v a t => a = ad 0 ∧ ft_Bq dC ad k sz v t) (ft_An 2 ad sz)) 1 150 (ft_An 2 ad sz) := by
  refine va_MetF (cc := cJ4_append_bf812) (maxL := 2) (ret := (some (.object "java/lang/StringBuilder"))) (by decide +kernel) rfl ?_
  intro p e s m args below meth c s₁ B hml hv
  obtain ⟨hargs, hP, hE, hD0, hsz⟩ := hv
  have hK := hE.1
  subst hargs
  have hx := B.exec
  have hb := B.bytes
  have hr := B.returns
  have hts := atoms_spec (ws := wsJ4_append_bf812) B.pre
  have hown : s.vm.findClass RJ4 = some m.cls := findClass_of_methodNamed B.named
  have hlocks := B.notSynchronized
  have hD : va_D (ft_An 2 ad sz) (ft_WB ad k u) := (ft_D_self hD0).weaken (fun _ _ _ h => Or.inl h)
  have hS : va_S (ft_An 2 ad sz) s.heap s.heap [] := va_S.rf
  have hl := lv_entry ([.ref (ad 0), .int x1]) (n := 2) (Nat.le_of_ble_eq_true rfl)
  rw [lg_entry_eq]
  generalize (lg_sl ([.ref (ad 0), .int x1]) ++ List.replicate (2 - (lg_sl ([.ref (ad 0), .int x1])).length) Slot.unset).toArray = ls at hl ⊢
  have hl : lv_has ls 2 [(0, .ref (ad 0)), (1, .int (x1))] := hl
  refine lv_aload_n hx hb dJ4_append_bf812_0 rfl (lv_at hl 0 rfl) ?_
  refine lv_iload_n hx hb dJ4_append_bf812_1 rfl (lv_at hl 1 rfl) ?_
  refine va_callr (va_runSU (As := [.int x1]) (rest := []) (ft_atSB hK) ⟨hx, hb, hml, hown, hts⟩ (c_J5_append_c97b9 l dC Z ad k u x1 n v0 sz h1 h4 hv0 hn hm hg hf) (va_cwSU 1 hts gJ4_append_bf812_J5_append_c97b9_s53 rfl rfl rfl (by decide +kernel) ⟨Nat.le_of_ble_eq_true rfl, Nat.le_of_ble_eq_true rfl⟩) (ft_preVh' hE hS (fun _ h => h) hP hD hsz (ci := 1) rfl (ft_get' (by decide) rfl)) rfl rfl hl.1 rfl (lv_room (Nat.le_of_ble_eq_true rfl)) dJ4_append_bf812_2 ⟨Nat.le_of_ble_eq_true rfl, Nat.le_of_ble_eq_true rfl⟩) hS (fun z9 _ h => h) (fun z9 h => h) (fun v ra t H1 locs1 ht hvm hw hB hz1 hk1 hS1 => ?_)
  refine lv_pop hx hb dJ4_append_bf812_5 rfl ?_
  refine lv_aload_n hx hb dJ4_append_bf812_6 rfl (lv_at hl 0 rfl) ?_
  refine W.widen (k := 1) (n := 150) (by decide) (by decide) ?_
  exact W.aret (v := .ref (ad 0)) hx hb hr (Or.inl ⟨_, rfl⟩) (Or.inr ⟨_, rfl⟩) (fun t2 ht2 hW => ⟨⟨v, ad 0, rfl, hw, rfl, hB.2.1, ft_heap ht2 (by rw [← ht]; exact hB.2.2)⟩, hS1.F ht2⟩) hS1.2.2 dJ4_append_bf812_7
