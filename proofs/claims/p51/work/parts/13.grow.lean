theorem ft_one {D : va_G} {k : Nat → ClassId} {ws : va_W} {H : Heap} {a : Nat} {u : ft_TY} {x : Nat × va_E} (hP : va_P D vwCl ((ws ++ [x]).set 1 (a, .inl (k 4, u.1, .inl u.2))) H) (hw : (ws ++ [x]).length = 2 := by rfl) : va_P D vwCl (ft_WY (fun _ => a) k u) H := by
  intro j q hj
  obtain ⟨h1, rfl⟩ := ft_of hj
  exact hP 1 _ (by rw [List.getElem?_set_self (by omega)]; rfl)

/-! growth of a row of bytes. sz: what the heap held at the start, or less; all from there on may be written -/
def ft_An (n : Nat) (ad : Nat → Nat) (sz : Nat) : Nat → Prop := fun q => ft_A n ad q ∨ sz ≤ q
def ft_Pg (D : va_G) (k : Nat → ClassId) (av : List Value) (ws : va_W) (sz : Nat) : Array Value → State → Prop := va_Pc av (fun U => va_P D vwCl ws U.heap ∧ ft_K D k U ∧ va_D (fun _ => True) ws ∧ sz ≤ U.heap.size)
theorem ft_Pg.blind {D : va_G} {k : Nat → ClassId} {av : List Value} {ws : va_W} {sz : Nat} : FrameBlind (ft_Pg D k av ws sz) := fun _ U _ _ q => ⟨q.1, q.2.1, q.2.2.1.same (u := U) rfl, q.2.2.2⟩
theorem ft_preSg {D : va_G} {k : Nat → ClassId} {s : State} {H : Heap} {As : List Value} {ws : va_W} {A : Nat → Prop} {sz : Nat} (hK : ft_K D k s) (hP : va_P D vwCl ws H) (hD : va_D A ws) (hz : sz ≤ H.size) : PreS s H (ft_Pg D k As ws sz) As := ⟨ft_Pg.blind, fun U hU hW => ⟨rfl, by rw [hU]; exact hP, hK.warm hW, hD.weaken (fun _ _ _ _ => trivial), by rw [hU]; exact hz⟩⟩
theorem ft_grne {x : Int32} {q m : Nat} (e : x = nI q) (h : m < q) (hq : q ≤ 200000) : ¬ x = nI m := by
  subst e
  intro h2
  have := (nI_eq (by omega) (by omega)).mp h2
  omega
set_option maxHeartbeats 4000000 in
set_option maxRecDepth 100000 in
theorem c_J7_copyOf_g (l : Launch) (dC : va_G) (ad : Nat → Nat) (k : Nat → ClassId) (u : ft_TY) (x2 : Int32) (q sz : Nat) (h1 : x2 = nI q) (h2 : u.1 < q) (h3 : q ≤ 150) (hf : sb_Fit u.2) : Met l yJ7_copyOf_9075b wsJ7_copyOf_9075b ({ frames := 1, cells := 1, slots := 150, locals := 60 }) (ft_Pg dC k [.ref (ad 0), .int x2] (ft_WY ad k u) sz) (va_Qr (fun _ : Unit => True) (fun _ a t => sz ≤ a ∧ va_P dC vwCl (ft_WY (fun _ => a) k (q, va_cpy u.2 (fun _ => 0) 0 0 u.1)) t.heap) (ft_An 1 ad sz)) 1 150 (ft_An 1 ad sz) := by
  refine va_MetF (cc := cJ7_copyOf_9075b) (maxL := 3) (ret := (some (.array .byte))) (by decide +kernel) rfl ?_
  intro p e s m args below meth c s₁ B hml hv
  obtain ⟨hargs, hP, hK, hD0, hsz⟩ := hv
  subst hargs
  have hx := B.exec
  have hb := B.bytes
  have hr := B.returns
  have hts := atoms_spec (ws := wsJ7_copyOf_9075b) B.pre
  have hown : s.vm.findClass RJ7 = some m.cls := findClass_of_methodNamed B.named
  have hlocks := B.notSynchronized
  have hD : va_D (ft_An 1 ad sz) (ft_WY ad k u) := (ft_D_self hD0).weaken (fun _ _ _ h => Or.inl h)
  have hS : va_S (ft_An 1 ad sz) s.heap s.heap [] := va_S.rf
  have hl := lv_entry ([.ref (ad 0), .int x2]) (n := 3) (Nat.le_of_ble_eq_true rfl)
  rw [lg_entry_eq]
  generalize (lg_sl ([.ref (ad 0), .int x2]) ++ List.replicate (3 - (lg_sl ([.ref (ad 0), .int x2])).length) Slot.unset).toArray = ls at hl ⊢
  have hl : lv_has ls 3 [(0, .ref (ad 0)), (1, .int x2)] := hl
  have hq0 : ¬ x2 < 0 := by rw [h1]; exact nI_pos (by omega)
  have hqn : x2.toNatClampNeg = q := by rw [h1]; exact nI_clamp (by omega)
  refine lv_iload_n hx hb dJ7_copyOf_9075b_0 rfl (lv_at hl 1 rfl) ?_
  refine lv_aload_n hx hb dJ7_copyOf_9075b_1 rfl (lv_at hl 0 rfl) ?_
  refine va_alen (v := nI u.1) hx hb hK.1 hP 0 4 (ft_get' (by decide) rfl) rfl rfl dJ7_copyOf_9075b_2 ?_
  refine lv_icmp_ne (tgt := 14) hx hb dJ7_copyOf_9075b_3 (by decide) (fun c_3 => ?_) (fun c_3 => ?_)
  · refine lv_iload_n hx hb dJ7_copyOf_9075b_14 rfl (lv_at hl 1 rfl) ?_
    refine va_newa (atype := .byte) (ty := .byte) (N' := q) (a0 := (q, .inl (fun _ => 0))) hx hb (hts (.arrayClass .byte) (by decide +kernel)) rfl hK.1 hP hD hS (fun z hz => Or.inr (Nat.le_trans hsz hz)) (fun _ => rfl) hq0 hqn (by show q * 1 ≤ 536870912; omega) (Nat.le_of_ble_eq_true rfl) (by show 0 + q ≤ 150; omega) dJ7_copyOf_9075b_15 (fun qa cA H1 hK1 hP1 hD1 hS1 => ?_)
    have ec : cA = k 4 := Option.some.inj ((hK1.2 5 _ rfl).2.symm.trans (hK1.2 4 _ rfl).2)
    subst ec
    have hge : sz ≤ qa := by
      rcases hD1.2 1 _ rfl with ⟨j, hj, hq⟩ | h
      · obtain rfl : j = 0 := by omega
        have h0 : (0 : Nat) = 1 := hD1.1 0 1 _ _ rfl rfl hq.symm
        omega
      · exact h
    refine lv_astore_n (lv' := [(2, .ref qa), (0, .ref (ad 0)), (1, .int x2)]) hx hb dJ7_copyOf_9075b_17 rfl hl (by decide) rfl (fun ls hl => ?_)
    refine lv_aload_n hx hb dJ7_copyOf_9075b_18 rfl (lv_at hl 1 rfl) ?_
    refine lv_iconst (v := 0) hx hb dJ7_copyOf_9075b_19 (by decide) ?_
    refine lv_aload_n hx hb dJ7_copyOf_9075b_20 rfl (lv_at hl 0 rfl) ?_
    refine lv_iconst (v := 0) hx hb dJ7_copyOf_9075b_21 (by decide) ?_
    refine lv_aload_n hx hb dJ7_copyOf_9075b_22 rfl (lv_at hl 1 rfl) ?_
    refine va_alen (v := nI u.1) hx hb hK1 hP1 0 4 rfl rfl rfl dJ7_copyOf_9075b_23 ?_
    refine lv_iload_n hx hb dJ7_copyOf_9075b_24 rfl (lv_at hl 2 rfl) ?_
    refine va_mmin hx hb (hml.trans hl.1.symm) hown (hts (.methodLink RJ7 304 Lib.Math.min.name) (by decide +kernel)) (hts (.static Lib.Math.min.name) (by decide +kernel)) (hts (.initialized "java/lang/Math") (by decide +kernel)) (hts (.code Lib.Math.min.name Lib.Math.min.code 2 (some .int)) (by decide +kernel)) (Nat.le_of_ble_eq_true rfl) (Nat.le_of_ble_eq_true rfl) (Nat.le_of_ble_eq_true rfl) (by show 0 + q ≤ 150; omega) dJ7_copyOf_9075b_25 ?_
    rw [if_neg (show ¬ x2 < nI u.1 by rw [h1]; exact nI_nlt (by omega) (by omega))]
    have em : (nI u.1).toNatClampNeg = u.1 := nI_clamp (by omega)
    refine va_copyi hx hb (hml.trans hl.1.symm) hown (hts (.methodLink RJ7 150 arraycopyName) (by decide +kernel)) (hts (.native arraycopyName) (by decide +kernel)) (hts (.static arraycopyName) (by decide +kernel)) (hts (.initialized "java/lang/System") (by decide +kernel)) hK1 hP1 hD1 hS1 0 1 4 5 rfl rfl rfl rfl rfl (by decide) (by decide) (nI_pos (by omega)) (by rw [em, sb_cl0]; omega) (by rw [em, sb_cl0]; omega) (fun i _ => hf _) (Nat.le_of_ble_eq_true rfl) (Nat.le_of_ble_eq_true rfl) dJ7_copyOf_9075b_28 (fun H locs hP hD hS => ?_)
    rw [em, sb_cl0] at hP
    refine lv_aload_n hx hb dJ7_copyOf_9075b_31 rfl (lv_at hl 0 rfl) ?_
    refine W.widen (k := 1) (n := 150) (by decide) (by omega) ?_
    exact W.aret (v := .ref qa) hx hb hr (Or.inr ⟨_, rfl⟩) (Or.inr ⟨_, rfl⟩) (fun t ht hW => ⟨⟨(), qa, rfl, trivial, hge, ft_heap ht (ft_one hP)⟩, hS.F ht⟩) hS.2.2 dJ7_copyOf_9075b_32
  · exact absurd c_3 (ft_grne h1 h2 (by omega))

def ft_gcap (q m : Nat) : Nat := m + if q - m < m + 2 then m + 2 else q - m
theorem ft_gcap_lt {q m : Nat} (h : m < q) : m < ft_gcap q m := by unfold ft_gcap; split <;> omega
theorem ft_gcap_q {q m : Nat} (h : m < q) : q ≤ ft_gcap q m := by unfold ft_gcap; split <;> omega
theorem ft_newcap {u : ft_TB} {x1 : Int32} {q : Nat} (h1 : x1 = nI q) (h2 : u.2.2.1 ≤ q) (h3 : q ≤ 1000) : s_J5_newCapacity_0f7a4 u x1 = nI (ft_gcap q u.2.2.1) := by
  unfold s_J5_newCapacity_0f7a4 s_J8_newLength_cabcc ft_gcap
  exact ft_grow rfl (ft_gsub h1 h2) (ft_gad2 _) (by omega) (by omega)
theorem ft_B_YD {A : Nat → Prop} {ad : Nat → Nat} {k : Nat → ClassId} {u : ft_TB} (hD : va_D A (ft_WB ad k u)) : va_D A (ft_WY (fun j => ad (1 + j)) k (u.2.2.1, u.2.2.2)) :=
  ft_D_sub (m := 1) hD (fun j => 1 + j) (fun j hj => by have : j < 1 := hj; omega) (fun i j hi hj h => by have : i < 1 := hi; have : j < 1 := hj; omega) (fun _ _ => rfl)
theorem ft_An_Y {ad : Nat → Nat} {sz sz' : Nat} (hz : sz ≤ sz') : ∀ q, ft_An 1 (fun j => ad (1 + j)) sz' q → ft_An 2 ad sz q := by
  intro q h
  rcases h with ⟨j, hj, h⟩ | h
  · exact Or.inl ⟨1 + j, by omega, h⟩
  · exact Or.inr (Nat.le_trans hz h)
def ft_Bx (ad : Nat → Nat) (k : Nat → ClassId) (u : ft_TB) (v : ft_TY) : Nat → va_E := fun j => match j with
  | 0 => .inr (1, [.ref (ad 1), .int 0, .int u.1, .int u.2.1])
  | _ => .inl (k 4, v.1, .inl v.2)
theorem ft_Bx_P {D : va_G} {ad : Nat → Nat} {k : Nat → ClassId} {u : ft_TB} {v : ft_TY} {H H1 : Heap} {A : Nat → Prop} {ra : Nat} (hP : va_P D vwCl (ft_WB ad k u) H) (hD : va_D A (ft_WB ad k u)) (hk : ∀ q : Nat, q < H.size → ¬ ft_An 1 (fun j => ad (1 + j)) H.size q → H1[q]? = H[q]?) (hB : va_P D vwCl (ft_WY (fun _ => ra) k v) H1) : va_P D vwCl (ft_W 2 (va_up ad 1 ra) (ft_Bx ad k u v)) H1 := by
  intro j q hj
  obtain ⟨h1, rfl⟩ := ft_of hj
  match j, h1 with
  | 0, _ =>
    have h0 := hP 0 _ (ft_get' (by decide) rfl)
    have hlt : ad 0 < H.size := h0.lt
    exact h0.kept (hk (ad 0) hlt (fun h => by
      rcases h with ⟨j, hj, h⟩ | h
      · obtain rfl : j = 0 := by omega
        have h2 : (0 : Nat) = 1 := hD.1 0 1 _ _ (ft_get' (by decide) rfl) (ft_get' (by decide) rfl) h
        omega
      · omega))
  | 1, _ => exact hB 0 _ (ft_get' (by decide) rfl)
theorem ft_Bx_D {D : va_G} {ad : Nat → Nat} {k : Nat → ClassId} {u : ft_TB} {va : Nat → va_E} {H : Heap} {sz ra : Nat} (hP : va_P D vwCl (ft_WB ad k u) H) (hz : sz ≤ H.size) (hr : H.size ≤ ra) : va_D (ft_An 2 ad sz) (ft_W 2 (va_up ad 1 ra) va) := by
  have hlt : ad 0 < H.size := (hP 0 _ (ft_get' (by decide) rfl)).lt
  refine ⟨fun i j x y hx hy hxy => ?_, fun i x hx => ?_⟩
  · obtain ⟨h1, rfl⟩ := ft_of hx
    obtain ⟨h2, rfl⟩ := ft_of hy
    have h3 : va_up ad 1 ra i = va_up ad 1 ra j := hxy
    match i, h1, j, h2 with
    | 0, _, 0, _ => rfl
    | 1, _, 1, _ => rfl
    | 0, _, 1, _ => rw [va_up_ne _ _ (by decide), va_up_self] at h3; omega
    | 1, _, 0, _ => rw [va_up_self, va_up_ne _ _ (by decide)] at h3; omega
  · obtain ⟨h1, rfl⟩ := ft_of hx
    match i, h1 with
    | 0, _ => exact Or.inl ⟨0, by decide, by show va_up ad 1 ra 0 = _; rw [va_up_ne _ _ (by decide)]⟩
    | 1, _ => exact Or.inr (by show sz ≤ va_up ad 1 ra 1; rw [va_up_self]; omega)
theorem ft_Bx_set {ad : Nat → Nat} {k : Nat → ClassId} {u : ft_TB} {v : ft_TY} {ra : Nat} : (ft_W 2 (va_up ad 1 ra) (ft_Bx ad k u v)).set 0 (va_up ad 1 ra 0, .inr (1, [.ref ra, .int 0, .int u.1, .int u.2.1])) = ft_WB (va_up ad 1 ra) k (u.1, u.2.1, v.1, v.2) := by
  refine ft_set' (fun j hj => ?_)
  match j, hj with
  | 0, _ => rw [va_up_self]; show _ = (.inr (1, [.ref (va_up ad 1 ra 1), .int 0, .int u.1, .int u.2.1]) : va_E); rw [va_up_self]
  | 1, _ => rw [va_up_ne _ _ (by decide)]; rfl
set_option maxHeartbeats 4000000 in
set_option maxRecDepth 100000 in
theorem c_J5_ensureCapacityInternal_d00df_g (l : Launch) (dC : va_G) (ad : Nat → Nat) (k : Nat → ClassId) (u : ft_TB) (x1 : Int32) (q sz : Nat) (h1 : x1 = nI q) (h2 : u.2.2.1 < q) (h3 : ft_gcap q u.2.2.1 ≤ 150) (hf : sb_Fit u.2.2.2) : Met l yJ5_ensureCapacityInternal_d00df wsJ5_ensureCapacityInternal_d00df ({ frames := 3, cells := 1, slots := 150, locals := 120 }) (ft_Pg dC k [.ref (ad 0), .int x1] (ft_WB ad k u) sz) (va_Qv (fun _ : Nat => True) (fun b t => sz ≤ b ∧ va_P dC vwCl (ft_WB (va_up ad 1 b) k (u.1, u.2.1, ft_gcap q u.2.2.1, va_cpy u.2.2.2 (fun _ => 0) 0 0 u.2.2.1)) t.heap) (ft_An 2 ad sz)) 1 150 (ft_An 2 ad sz) := by
  have hq := ft_gcap_q h2
  refine va_MetF (cc := cJ5_ensureCapacityInternal_d00df) (maxL := 3) (ret := none) (by decide +kernel) rfl ?_
  intro p e s m args below meth c s₁ B hml hv
  obtain ⟨hargs, hP, hK, hD0, hsz⟩ := hv
  subst hargs
  have hx := B.exec
  have hb := B.bytes
  have hr := B.returns
  have hts := atoms_spec (ws := wsJ5_ensureCapacityInternal_d00df) B.pre
  have hown : s.vm.findClass RJ5 = some m.cls := findClass_of_methodNamed B.named
  have hlocks := B.notSynchronized
  have hD : va_D (ft_An 2 ad sz) (ft_WB ad k u) := (ft_D_self hD0).weaken (fun _ _ _ h => Or.inl h)
  have hS : va_S (ft_An 2 ad sz) s.heap s.heap [] := va_S.rf
  have hl := lv_entry ([.ref (ad 0), .int x1]) (n := 3) (Nat.le_of_ble_eq_true rfl)
  rw [lg_entry_eq]
  generalize (lg_sl ([.ref (ad 0), .int x1]) ++ List.replicate (3 - (lg_sl ([.ref (ad 0), .int x1])).length) Slot.unset).toArray = ls at hl ⊢
  have hl : lv_has ls 3 [(0, .ref (ad 0)), (1, .int x1)] := hl
  refine lv_aload_n hx hb dJ5_ensureCapacityInternal_d00df_0 rfl (lv_at hl 0 rfl) ?_
  refine va_get (D := dC) (ci := 1) (v := .ref (ad 1)) (C := RJ4) (T := TJ4) (N := 4) hx hb hts (by decide +kernel) hown hK.1 hP 0 (ft_get' (by decide) rfl) rfl 0 (by decide) (hts (.fieldLink RJ5 15 "java/lang/AbstractStringBuilder" "value" "[B") (by decide +kernel)) (fun _ h9 => h9) rfl dJ5_ensureCapacityInternal_d00df_1 ?_
  refine va_alen (v := nI u.2.2.1) hx hb hK.1 hP 1 4 (ft_get' (by decide) rfl) rfl rfl dJ5_ensureCapacityInternal_d00df_4 ?_
  refine lv_aload_n hx hb dJ5_ensureCapacityInternal_d00df_5 rfl (lv_at hl 0 rfl) ?_
  refine va_get (D := dC) (ci := 1) (v := .int 0) (C := RJ4) (T := TJ4) (N := 4) hx hb hts (by decide +kernel) hown hK.1 hP 0 (ft_get' (by decide) rfl) rfl 1 (by decide) (hts (.fieldLink RJ5 22 "java/lang/AbstractStringBuilder" "coder" "B") (by decide +kernel)) (fun _ h9 => h9) rfl dJ5_ensureCapacityInternal_d00df_6 ?_
  refine lv_ishr hx hb dJ5_ensureCapacityInternal_d00df_9 ?_
  rw [sb_shr0]
  refine lv_istore_n (lv' := [(2, .int (nI u.2.2.1)), (0, .ref (ad 0)), (1, .int x1)]) hx hb dJ5_ensureCapacityInternal_d00df_10 rfl hl (by decide) rfl (fun ls hl => ?_)
  refine lv_iload_n hx hb dJ5_ensureCapacityInternal_d00df_11 rfl (lv_at hl 2 rfl) ?_
  refine lv_iload_n hx hb dJ5_ensureCapacityInternal_d00df_12 rfl (lv_at hl 0 rfl) ?_
  refine lv_isub hx hb dJ5_ensureCapacityInternal_d00df_13 ?_
  refine lv_if_le (tgt := 38) hx hb dJ5_ensureCapacityInternal_d00df_14 (by decide) (fun c_14 => ?_) (fun c_14 => ?_)
  · refine absurd c_14 ?_
    rw [ft_gsub h1 (by omega)]
    exact nI_nle (by omega) (by omega)
  · refine lv_aload_n hx hb dJ5_ensureCapacityInternal_d00df_17 rfl (lv_at hl 1 rfl) ?_
    refine lv_aload_n hx hb dJ5_ensureCapacityInternal_d00df_18 rfl (lv_at hl 1 rfl) ?_
    refine va_get (D := dC) (ci := 1) (v := .ref (ad 1)) (C := RJ4) (T := TJ4) (N := 4) hx hb hts (by decide +kernel) hown hK.1 hP 0 (ft_get' (by decide) rfl) rfl 0 (by decide) (hts (.fieldLink RJ5 15 "java/lang/AbstractStringBuilder" "value" "[B") (by decide +kernel)) (fun _ h9 => h9) rfl dJ5_ensureCapacityInternal_d00df_19 ?_
    refine lv_aload_n hx hb dJ5_ensureCapacityInternal_d00df_22 rfl (lv_at hl 1 rfl) ?_
    refine lv_iload_n hx hb dJ5_ensureCapacityInternal_d00df_23 rfl (lv_at hl 2 rfl) ?_
    refine vp_callSi (va_Run.run (va_runU (As := [.int x1]) (rest := [.ref (ad 1), .ref (ad 0)]) ⟨hx, hb, hml, hown, hts⟩ (c_J5_newCapacity_0f7a4 l dC ad k u x1 q h1 (by omega) (by omega)) (va_cwU 1 hts gJ5_ensureCapacityInternal_d00df_J5_newCapacity_0f7a4_u104J4 rfl rfl rfl rfl (by decide +kernel) ⟨Nat.le_of_ble_eq_true rfl, Nat.le_of_ble_eq_true rfl⟩) (ft_preVc hK hP (ci := 1) rfl (ft_get' (by decide) rfl)) rfl rfl hl.1 rfl (lv_room (Nat.le_of_ble_eq_true rfl)) dJ5_ensureCapacityInternal_d00df_24 ⟨Nat.le_of_ble_eq_true rfl, Nat.le_of_ble_eq_true rfl⟩)) (fun z hz => ?_)
    have hz2 : z = nI (ft_gcap q u.2.2.1) := hz.trans (ft_newcap h1 (by omega) (by omega))
    subst hz2
    refine lv_aload_n hx hb dJ5_ensureCapacityInternal_d00df_27 rfl (lv_at hl 1 rfl) ?_
    refine va_get (D := dC) (ci := 1) (v := .int 0) (C := RJ4) (T := TJ4) (N := 4) hx hb hts (by decide +kernel) hown hK.1 hP 0 (ft_get' (by decide) rfl) rfl 1 (by decide) (hts (.fieldLink RJ5 22 "java/lang/AbstractStringBuilder" "coder" "B") (by decide +kernel)) (fun _ h9 => h9) rfl dJ5_ensureCapacityInternal_d00df_28 ?_
    refine lv_ishl hx hb dJ5_ensureCapacityInternal_d00df_31 ?_
    rw [sb_shl0]
    refine va_callr (va_runS (As := [.ref (ad 1), .int (nI (ft_gcap q u.2.2.1))]) (rest := [.ref (ad 0)]) ⟨hx, hb, hml, hown, hts⟩ (c_J7_copyOf_g l dC (fun j => ad (1 + j)) k (u.2.2.1, u.2.2.2) (nI (ft_gcap q u.2.2.1)) (ft_gcap q u.2.2.1) s.heap.size rfl (ft_gcap_lt h2) h3 hf) (va_cwS 2 hts gJ5_ensureCapacityInternal_d00df_J7_copyOf_9075b rfl rfl rfl (by decide +kernel) ⟨Nat.le_of_ble_eq_true rfl, Nat.le_of_ble_eq_true rfl⟩) (ft_preSg hK (ft_B_Y hP) (ft_B_YD hD) (Nat.le_refl _)) rfl rfl hl.1 rfl (lv_room (Nat.le_of_ble_eq_true rfl)) dJ5_ensureCapacityInternal_d00df_32 ⟨Nat.le_of_ble_eq_true rfl, Nat.le_of_ble_eq_true rfl⟩) hS (fun z _ h => ft_An_Y hsz z h) (fun z h => ft_An_Y hsz z h) (fun _ ra t H1 locs1 ht hvm hu hB hz1 hk1 hS1 => ?_)
    rw [ht] at hB
    have hP1 := ft_Bx_P hP hD hk1 hB.2
    have hD1 := ft_Bx_D (va := ft_Bx ad k u (ft_gcap q u.2.2.1, va_cpy u.2.2.2 (fun _ => 0) 0 0 u.2.2.1)) hP hsz hB.1
    refine va_put (D := dC) (ci := 1) (v := .ref ra) (ty := .array .byte) (C := RJ4) (T := TJ4) (N := 4) hx hb hts (by decide +kernel) tyJ4 tyJ4_ok nmJ4 hown hK.1 hP1 hD1 hS1 0 (ft_get' (by decide) rfl) rfl 0 (by decide) (hts (.fieldLink RJ5 15 "java/lang/AbstractStringBuilder" "value" "[B") (by decide +kernel)) (fun _ h9 => h9) rfl (by decide +kernel) rfl rfl (Nat.le_of_ble_eq_true rfl) dJ5_ensureCapacityInternal_d00df_35 (fun H locs hP hD hS => ?_)
    have hP := ft_cast hP ft_Bx_set
    refine W.widen (k := 1) (n := 150) (by decide) (by decide) ?_
    exact W.vret hx hb hr (fun t ht hW => ⟨⟨ra, rfl, trivial, Nat.le_trans hsz hB.1, ft_heap ht hP⟩, hS.F ht⟩) hS.2.2 dJ5_ensureCapacityInternal_d00df_38
