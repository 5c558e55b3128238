/-! a new StringBuilder -/
abbrev ft_W0 (ad : Nat → Nat) : va_W := ft_W 1 ad (fun _ => .inr (1, [.null, .int 0, .int 0, .int 0]))
theorem ft_preSh {D : va_G} {k : Nat → ClassId} {Z : Nat → Nat → Nat} {A B A' : Nat → Prop} {s : State} {H : Heap} {locs : List Loc} {As : List Value} {ws : va_W} {sz : Nat} (hE : ft_E D k Z A s) (hS : va_S A s.heap H locs) (hAB : ∀ q, B q → A q) (hP : va_P D vwCl ws H) (hD : va_D A' ws) (hz : sz ≤ H.size) : PreS s H (ft_Ph D k Z B As ws sz) As := ⟨ft_Ph.blind, fun U hU hW => ⟨rfl, by rw [hU]; exact hP, hE.go hS hAB hU hW, hD.weaken (fun _ _ _ _ => trivial), by rw [hU]; exact hz⟩⟩
def ft_Bn (k : Nat → ClassId) (v : Value) : Nat → va_E := fun j => match j with
  | 0 => .inr (1, [v, .int 0, .int 0, .int 0])
  | _ => .inl (k 4, 16, .inl (fun _ => 0))
theorem ft_app0 {ad : Nat → Nat} {k : Nat → ClassId} {q : Nat} : ft_W0 ad ++ [(q, .inl (k 4, 16, .inl (fun _ => 0)))] = ft_W 2 (va_up ad 1 q) (ft_Bn k .null) := rfl
theorem ft_Bn_v {ad : Nat → Nat} {k : Nat → ClassId} {q : Nat} : (ft_W 2 (va_up ad 1 q) (ft_Bn k .null)).set 0 (va_up ad 1 q 0, .inr (1, [.ref q, .int 0, .int 0, .int 0])) = ft_W 2 (va_up ad 1 q) (ft_Bn k (.ref q)) := rfl
theorem ft_Bn_c {ad : Nat → Nat} {k : Nat → ClassId} {q : Nat} : (ft_W 2 (va_up ad 1 q) (ft_Bn k (.ref q))).set 0 (va_up ad 1 q 0, .inr (1, [.ref q, .int 0, .int 0, .int 0])) = ft_WB (va_up ad 1 q) k (0, 0, 16, fun _ => 0) := rfl
set_option maxHeartbeats 4000000 in
set_option maxRecDepth 100000 in
theorem c_J5_init_d00df (l : Launch) (dC : va_G) (Z : Nat → Nat → Nat) (ad : Nat → Nat) (k : Nat → ClassId) (sz : Nat) : Met l yJ5_init_d00df wsJ5_init_d00df ({ frames := 1, cells := 1, slots := 16, locals := 40 }) (ft_Ph dC k Z (ft_An 1 ad sz) [.ref (ad 0), .int 16] (ft_W0 ad) sz) (va_Qv (fun _ : Nat => True) (fun b t => sz ≤ b ∧ va_P dC vwCl (ft_WB (va_up ad 1 b) k (0, 0, 16, fun _ => 0)) t.heap) (ft_An 1 ad sz)) 1 16 (ft_An 1 ad sz) := by
  refine va_MetF (cc := cJ5_init_d00df) (maxL := 2) (ret := none) (by decide +kernel) rfl ?_
  intro p e s m args below meth c s₁ B hml hv
  obtain ⟨hargs, hP, hE, hD0, hsz⟩ := hv
  have hK := hE.1
  subst hargs
  have hx := B.exec
  have hb := B.bytes
  have hr := B.returns
  have hts := atoms_spec (ws := wsJ5_init_d00df) B.pre
  have hown : s.vm.findClass RJ5 = some m.cls := findClass_of_methodNamed B.named
  have hlocks := B.notSynchronized
  have hD : va_D (ft_An 1 ad sz) (ft_W0 ad) := (ft_D_self hD0).weaken (fun _ _ _ h => Or.inl h)
  have hS : va_S (ft_An 1 ad sz) s.heap s.heap [] := va_S.rf
  have hl := lv_entry ([.ref (ad 0), .int 16]) (n := 2) (Nat.le_of_ble_eq_true rfl)
  rw [lg_entry_eq]
  generalize (lg_sl ([.ref (ad 0), .int 16]) ++ List.replicate (2 - (lg_sl ([.ref (ad 0), .int 16])).length) Slot.unset).toArray = ls at hl ⊢
  have hl : lv_has ls 2 [(0, .ref (ad 0)), (1, .int 16)] := hl
  refine lv_aload_n hx hb dJ5_init_d00df_0 rfl (lv_at hl 0 rfl) ?_
  refine W.objInit hx hb hown (hts (.methodLink RJ5 3 objectInit) (by decide +kernel)) (hts (.instanceMethod objectInit) (by decide +kernel)) (hts (.code objectInit ⟨#[0xb1]⟩ 1 none) (by decide +kernel)) rfl (by rw [hml]; exact hl.1) rfl dJ5_init_d00df_1 (Nat.le_of_ble_eq_true rfl) (Nat.le_of_ble_eq_true rfl) ?_
  refine W.eq (g2 := F0 m 4 ls []) rfl ?_
  refine va_gets (C := "java/lang/String") (n := "COMPACT_STRINGS") (d := "Z") hx hb hE.2.2.cs hS hown (hts (.fieldLink RJ5 18 "java/lang/String" "COMPACT_STRINGS" "Z") (by decide +kernel)) (fun _ h9 => h9) dJ5_init_d00df_4 ?_
  refine lv_if_eq (tgt := 25) hx hb dJ5_init_d00df_7 (by decide) (fun c_7 => absurd c_7 (by decide)) (fun c_7 => ?_)
  refine lv_aload_n hx hb dJ5_init_d00df_10 rfl (lv_at hl 0 rfl) ?_
  refine lv_iload_n hx hb dJ5_init_d00df_11 rfl (lv_at hl 1 rfl) ?_
  refine va_newa (atype := .byte) (ty := .byte) (N' := 16) (a0 := (16, .inl (fun _ => 0))) hx hb (hts (.arrayClass .byte) (by decide +kernel)) rfl hK.1 hP hD hS (fun z hz => Or.inr (Nat.le_trans hsz hz)) (fun _ => rfl) (by decide) (by decide) (by decide) (Nat.le_of_ble_eq_true rfl) (Nat.le_of_ble_eq_true rfl) dJ5_init_d00df_12 (fun qa cA H1 hK1 hP1 hD1 hS1 => ?_)
  have ec : cA = k 4 := Option.some.inj ((hK1.2 5 _ rfl).2.symm.trans (hK1.2 4 _ rfl).2)
  subst ec
  have hge : sz ≤ qa := by
    rcases hD1.2 1 _ rfl with ⟨j, hj, hq⟩ | h
    · obtain rfl : j = 0 := by omega
      have h0 : (0 : Nat) = 1 := hD1.1 0 1 _ _ rfl rfl hq.symm
      omega
    · exact h
  have hP2 := ft_cast hP1 ft_app0
  have hD2 := ft_castD hD1 ft_app0
  refine va_put (D := dC) (ci := 1) (v := .ref qa) (ty := .array .byte) (C := RJ4) (T := TJ4) (N := 4) hx hb hts (by decide +kernel) tyJ4 tyJ4_ok nmJ4 hown hK.1 hP2 hD2 hS1 0 (ft_get' (by decide) rfl) rfl 0 (by decide) (hts (.fieldLink RJ5 15 "java/lang/AbstractStringBuilder" "value" "[B") (by decide +kernel)) (fun _ h9 => h9) rfl (by decide +kernel) rfl rfl (Nat.le_of_ble_eq_true rfl) dJ5_init_d00df_14 (fun H locs hP hD hS => ?_)
  have hP := ft_cast hP ft_Bn_v
  have hD := ft_castD hD ft_Bn_v
  refine lv_aload_n hx hb dJ5_init_d00df_17 rfl (lv_at hl 0 rfl) ?_
  refine lv_iconst (v := 0) hx hb dJ5_init_d00df_18 (by decide) ?_
  refine va_put (D := dC) (ci := 1) (v := .int 0) (ty := .byte) (C := RJ4) (T := TJ4) (N := 4) hx hb hts (by decide +kernel) tyJ4 tyJ4_ok nmJ4 hown hK.1 hP hD hS 0 (ft_get' (by decide) rfl) rfl 1 (by decide) (hts (.fieldLink RJ5 22 "java/lang/AbstractStringBuilder" "coder" "B") (by decide +kernel)) (fun _ h9 => h9) rfl (by decide +kernel) rfl rfl (Nat.le_of_ble_eq_true rfl) dJ5_init_d00df_19 (fun H locs hP hD hS => ?_)
  have hP := ft_cast hP ft_Bn_c
  refine lv_goto (tgt := 38) hx hb dJ5_init_d00df_22 (by decide) ?_
  exact W.vret hx hb hr (fun t ht hW => ⟨⟨qa, rfl, trivial, hge, ft_heap ht hP⟩, hS.F ht⟩) hS.2.2 dJ5_init_d00df_38
set_option maxHeartbeats 4000000 in
set_option maxRecDepth 100000 in
theorem c_J4_init_da8c8 (l : Launch) (dC : va_G) (Z : Nat → Nat → Nat) (ad : Nat → Nat) (k : Nat → ClassId) (sz : Nat) : Met l yJ4_init_da8c8 wsJ4_init_da8c8 ({ frames := 2, cells := 1, slots := 16, locals := 61 }) (ft_Ph dC k Z (ft_An 1 ad sz) [.ref (ad 0)] (ft_W0 ad) sz) (va_Qv (fun _ : Nat => True) (fun b t => sz ≤ b ∧ va_P dC vwCl (ft_WB (va_up ad 1 b) k (0, 0, 16, fun _ => 0)) t.heap) (ft_An 1 ad sz)) 1 16 (ft_An 1 ad sz) := by
  refine va_MetF (cc := cJ4_init_da8c8) (maxL := 1) (ret := none) (by decide +kernel) rfl ?_
  intro p e s m args below meth c s₁ B hml hv
  obtain ⟨hargs, hP, hE, hD0, hsz⟩ := hv
  have hK := hE.1
  subst hargs
  have hx := B.exec
  have hb := B.bytes
  have hr := B.returns
  have hts := atoms_spec (ws := wsJ4_init_da8c8) B.pre
  have hown : s.vm.findClass RJ4 = some m.cls := findClass_of_methodNamed B.named
  have hlocks := B.notSynchronized
  have hD : va_D (ft_An 1 ad sz) (ft_W0 ad) := (ft_D_self hD0).weaken (fun _ _ _ h => Or.inl h)
  have hS : va_S (ft_An 1 ad sz) s.heap s.heap [] := va_S.rf
  have hl := lv_entry ([.ref (ad 0)]) (n := 1) (Nat.le_of_ble_eq_true rfl)
  rw [lg_entry_eq]
  generalize (lg_sl ([.ref (ad 0)]) ++ List.replicate (1 - (lg_sl ([.ref (ad 0)])).length) Slot.unset).toArray = ls at hl ⊢
  have hl : lv_has ls 1 [(0, .ref (ad 0))] := hl
  refine lv_aload_n hx hb dJ4_init_da8c8_0 rfl (lv_at hl 0 rfl) ?_
  refine lv_bipush (v := 16) hx hb dJ4_init_da8c8_1 (by decide) ?_
  refine va_callv (va_runI (As := [.int 16]) (rest := []) ⟨hx, hb, hml, hown, hts⟩ (c_J5_init_d00df l dC Z ad k sz) (cwI 1 hts gJ4_init_da8c8_J5_init_d00df rfl rfl rfl (hts (.initialized RJ5) (by decide +kernel)) (hts (.methodLink RJ4 1 yJ5_init_d00df) (by decide +kernel)) (hts (.instanceMethod yJ5_init_d00df) (by decide +kernel)) rfl (by decide +kernel) ⟨Nat.le_of_ble_eq_true rfl, Nat.le_of_ble_eq_true rfl⟩) (ft_preSh hE hS (fun _ h => h) hP hD hsz) rfl rfl hl.1 rfl (lv_room (Nat.le_of_ble_eq_true rfl)) dJ4_init_da8c8_3 ⟨Nat.le_of_ble_eq_true rfl, Nat.le_of_ble_eq_true rfl⟩) hS (fun z9 _ h => h) (fun z9 h => h) (fun b t H1 locs1 ht hvm hw hB hz1 hk1 hS1 => ?_)
  exact W.vret hx hb hr (fun t2 ht2 hW => ⟨⟨b, rfl, trivial, hB.1, ft_heap ht2 (by rw [← ht]; exact hB.2)⟩, hS1.F ht2⟩) hS1.2.2 dJ4_init_da8c8_6
