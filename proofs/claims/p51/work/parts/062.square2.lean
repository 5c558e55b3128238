def s_X4_openTruck (r : Nat → Int32)  : Int32 × (Nat → Int32) := if (r 0) < 6 then ((((va_up r 0 ((r 0) + 1)) 0) - 1, va_up r 0 ((r 0) + 1))) else (((-4), r))
set_option maxHeartbeats 4000000 in
set_option maxRecDepth 100000 in
theorem c_X4_openTruck (l : Launch) (dC : va_G) (ad : Nat → Nat) (k : Nat → ClassId) (r : Nat → Int32)  : Met l yX4_openTruck wsX4_openTruck ({ frames := 0, cells := 0, slots := 0, locals := 0 }) (ft_Pd dC k [.ref (ad 0)] (ft_WS ad k r)) (va_Qi (fun (z : Int32) (u : Nat → Int32) => (z, u) = s_X4_openTruck r) (fun (u : Nat → Int32) (t : State) => va_P dC vwCl (ft_WS ad k u) t.heap) (ft_A 23 ad)) 0 0 (ft_A 23 ad) := by
  refine Met.ofW (cc := cX4_openTruck) (maxL := 1) (ret := (some .int)) (by decide) rfl ?_
  intro p e s m args below meth c s₁ B hml hv
  obtain ⟨hargs, hP, hK, hD0⟩ := hv
  subst hargs
  have hx := B.exec
  have hb := B.bytes
  have hr := B.returns
  have hts := atoms_spec (ws := wsX4_openTruck) B.pre
  have hown : s.vm.findClass RX4 = some m.cls := findClass_of_methodNamed B.named
  have hlocks := B.notSynchronized
  have hD := ft_D_self hD0
  have hS : va_S (ft_A 23 ad) s.heap s.heap [] := va_S.rf
  have hl := lv_entry ([.ref (ad 0)]) (n := 1) (Nat.le_of_ble_eq_true rfl)
  rw [lg_entry_eq]
  generalize (lg_sl ([.ref (ad 0)]) ++ List.replicate (1 - (lg_sl ([.ref (ad 0)])).length) Slot.unset).toArray = ls at hl ⊢
  have hl : lv_has ls 1 [(0, .ref (ad 0))] := hl
  have hsp := (s_X4_openTruck.eq_1 r ).symm
  refine lv_aload_n hx hb dX4_openTruck_0 rfl (lv_at hl 0 rfl) ?_
  refine va_get (D := dC) (ci := 6) (v := .int (r 0)) (C := RX4) (T := TX4) (N := 12) hx hb hts (by decide +kernel) hown hK.1 hP 0 (ft_get' (by decide) rfl) rfl 4 (by decide) (hts (.fieldLink RX4 48 "FoodTruckRota$Square" "truckTotal" "I") (by decide +kernel)) (fun _ h9 => h9) rfl dX4_openTruck_1 ?_
  refine lv_bipush (v := 6) hx hb dX4_openTruck_4 (by decide) ?_
  refine lv_icmp_lt (tgt := 12) hx hb dX4_openTruck_6 (by decide) (fun c_6 => ?_) (fun c_6 => ?_)
  · replace hsp := (if_pos c_6).symm.trans hsp
    refine lv_aload_n hx hb dX4_openTruck_12 rfl (lv_at hl 0 rfl) ?_
    refine lv_dup hx hb dX4_openTruck_13 rfl ?_
    refine va_get (D := dC) (ci := 6) (v := .int (r 0)) (C := RX4) (T := TX4) (N := 12) hx hb hts (by decide +kernel) hown hK.1 hP 0 (ft_get' (by decide) rfl) rfl 4 (by decide) (hts (.fieldLink RX4 48 "FoodTruckRota$Square" "truckTotal" "I") (by decide +kernel)) (fun _ h9 => h9) rfl dX4_openTruck_14 ?_
    refine lv_iconst (v := 1) hx hb dX4_openTruck_17 (by decide) ?_
    refine lv_iadd hx hb dX4_openTruck_18 ?_
    refine va_put (D := dC) (ci := 6) (v := .int ((r 0) + 1)) (ty := .int) (C := RX4) (T := TX4) (N := 12) hx hb hts (by decide +kernel) tyX4 tyX4_ok nmX4 hown hK.1 hP hD hS 0 (ft_get' (by decide) rfl) rfl 4 (by decide) (hts (.fieldLink RX4 48 "FoodTruckRota$Square" "truckTotal" "I") (by decide +kernel)) (fun _ h9 => h9) rfl (by decide +kernel) rfl rfl (Nat.le_of_ble_eq_true rfl) dX4_openTruck_19 (fun H locs hP hD hS => ?_)
    have hP := ft_cast hP ft_S_p0
    have hD := ft_castD hD ft_S_p0
    have hP : va_P dC vwCl (ft_WS ad k (va_up r 0 ((r 0) + 1))) H := hP
    have hD : va_D (ft_A 23 ad) (ft_WS ad k (va_up r 0 ((r 0) + 1))) := hD
    refine lv_aload_n hx hb dX4_openTruck_22 rfl (lv_at hl 0 rfl) ?_
    refine va_get (D := dC) (ci := 6) (v := .int ((va_up r 0 ((r 0) + 1)) 0)) (C := RX4) (T := TX4) (N := 12) hx hb hts (by decide +kernel) hown hK.1 hP 0 (ft_get' (by decide) rfl) rfl 4 (by decide) (hts (.fieldLink RX4 48 "FoodTruckRota$Square" "truckTotal" "I") (by decide +kernel)) (fun _ h9 => h9) rfl dX4_openTruck_23 ?_
    refine lv_iconst (v := 1) hx hb dX4_openTruck_26 (by decide) ?_
    refine lv_isub hx hb dX4_openTruck_27 ?_
    exact W.iret (v := ((va_up r 0 ((r 0) + 1)) 0) - 1) hx hb hr (fun t ht hW => ⟨⟨((va_up r 0 ((r 0) + 1)) 0) - 1, (va_up r 0 ((r 0) + 1)), rfl, hsp, ft_heap ht hP⟩, hS.F ht⟩) hS.2.2 dX4_openTruck_28
  · replace hsp := (if_neg c_6).symm.trans hsp
    refine lv_bipush (v := (-4)) hx hb dX4_openTruck_9 (by decide) ?_
    exact W.iret (v := (-4)) hx hb hr (fun t ht hW => ⟨⟨(-4), r, rfl, hsp, ft_heap ht hP⟩, hS.F ht⟩) hS.2.2 dX4_openTruck_11

def s_X4_loadPortions (r : Nat → Int32) (x1 : Int32) (x2 : Int32) (x3 : Int32) : Int32 × (Nat → Int32) := if (s_X4_isTruck r x1) = 0 then (((-1), r)) else (if (s_X7_isDish x2) = 0 then (((-1), r)) else (if x3 < 1 then (((-2), r)) else (if x3 ≤ 50 then (if ((ft_ar r (51 + 17 * (tn x1) + 4) 4 (tn x2)) + x3) ≤ 99 then ((ft_ar (va_up r (51 + 17 * (tn x1) + 4 + tn x2) ((ft_ar r (51 + 17 * (tn x1) + 4) 4 (tn x2)) + x3)) (51 + 17 * (tn x1) + 4) 4 (tn x2), va_up r (51 + 17 * (tn x1) + 4 + tn x2) ((ft_ar r (51 + 17 * (tn x1) + 4) 4 (tn x2)) + x3))) else (((-4), r))) else (((-2), r)))))
set_option maxHeartbeats 4000000 in
set_option maxRecDepth 100000 in
theorem c_X4_loadPortions (l : Launch) (dC : va_G) (ad : Nat → Nat) (k : Nat → ClassId) (r : Nat → Int32) (x1 : Int32) (x2 : Int32) (x3 : Int32) : Met l yX4_loadPortions wsX4_loadPortions ({ frames := 1, cells := 0, slots := 0, locals := 21 }) (ft_Pd dC k [.ref (ad 0), .int x1, .int x2, .int x3] (ft_WS ad k r)) (va_Qi (fun (z : Int32) (u : Nat → Int32) => (z, u) = s_X4_loadPortions r x1 x2 x3) (fun (u : Nat → Int32) (t : State) => va_P dC vwCl (ft_WS ad k u) t.heap) (ft_A 23 ad)) 0 0 (ft_A 23 ad) := by
  refine Met.ofW (cc := cX4_loadPortions) (maxL := 5) (ret := (some .int)) (by decide) rfl ?_
  intro p e s m args below meth c s₁ B hml hv
  obtain ⟨hargs, hP, hK, hD0⟩ := hv
  subst hargs
  have hx := B.exec
  have hb := B.bytes
  have hr := B.returns
  have hts := atoms_spec (ws := wsX4_loadPortions) B.pre
  have hown : s.vm.findClass RX4 = some m.cls := findClass_of_methodNamed B.named
  have hlocks := B.notSynchronized
  have hD := ft_D_self hD0
  have hS : va_S (ft_A 23 ad) s.heap s.heap [] := va_S.rf
  have hl := lv_entry ([.ref (ad 0), .int x1, .int x2, .int x3]) (n := 5) (Nat.le_of_ble_eq_true rfl)
  rw [lg_entry_eq]
  generalize (lg_sl ([.ref (ad 0), .int x1, .int x2, .int x3]) ++ List.replicate (5 - (lg_sl ([.ref (ad 0), .int x1, .int x2, .int x3])).length) Slot.unset).toArray = ls at hl ⊢
  have hl : lv_has ls 5 [(0, .ref (ad 0)), (1, .int (x1)), (2, .int (x2)), (3, .int (x3))] := hl
  have hsp := (s_X4_loadPortions.eq_1 r x1 x2 x3).symm
  refine lv_aload_n hx hb dX4_loadPortions_0 rfl (lv_at hl 0 rfl) ?_
  refine lv_iload_n hx hb dX4_loadPortions_1 rfl (lv_at hl 1 rfl) ?_
  refine vp_callSi (va_Run.run (va_runV (As := [.int (x1)]) (rest := []) ⟨hx, hb, hml, hown, hts⟩ (c_X4_isTruck l dC ad k r x1) (cwV 1 hts gX4_loadPortions_X4_isTruck rfl rfl rfl (by decide +kernel) ⟨Nat.le_of_ble_eq_true rfl, Nat.le_of_ble_eq_true rfl⟩) (ft_preVc hK hP (ci := 6) rfl (ft_get' (by decide) rfl)) rfl rfl hl.1 rfl (lv_room (Nat.le_of_ble_eq_true rfl)) dX4_loadPortions_2 ⟨Nat.le_of_ble_eq_true rfl, Nat.le_of_ble_eq_true rfl⟩)) (fun z hz => ?_)
  subst hz
  refine lv_if_eq (tgt := 15) hx hb dX4_loadPortions_5 (by decide) (fun c_5 => ?_) (fun c_5 => ?_)
  · replace hsp := (if_pos c_5).symm.trans hsp
    refine lv_iconst (v := (-1)) hx hb dX4_loadPortions_15 (by decide) ?_
    exact W.iret (v := (-1)) hx hb hr (fun t ht hW => ⟨⟨(-1), r, rfl, hsp, ft_heap ht hP⟩, hS.F ht⟩) hS.2.2 dX4_loadPortions_16
  · replace hsp := (if_neg c_5).symm.trans hsp
    refine lv_iload_n hx hb dX4_loadPortions_8 rfl (lv_at hl 2 rfl) ?_
    refine vp_callSi (va_Run.run (va_runSN (As := [.int (x2)]) (rest := []) ⟨hx, hb, hml, hown, hts⟩ (c_X7_isDish l x2) ⟨va_cnB 1 hts ggX4_loadPortions_X7_isDish rfl rfl rfl (ft_nm hK.2 2 rfl) (hts (.initialized RX7) (by decide +kernel)) (by decide +kernel) ⟨Nat.le_of_ble_eq_true rfl, Nat.le_of_ble_eq_true rfl⟩, hts (.static yX7_isDish) (by decide +kernel), trivial⟩ ft_preSn rfl rfl hl.1 rfl (lv_room (Nat.le_of_ble_eq_true rfl)) dX4_loadPortions_9 ⟨Nat.le_of_ble_eq_true rfl, Nat.le_of_ble_eq_true rfl⟩)) (fun z hz => ?_)
    subst hz
    refine lv_if_ne (tgt := 17) hx hb dX4_loadPortions_12 (by decide) (fun c_12 => ?_) (fun c_12 => ?_)
    · replace hsp := (if_neg c_12).symm.trans hsp
      refine lv_iload_n hx hb dX4_loadPortions_17 rfl (lv_at hl 3 rfl) ?_
      refine lv_iconst (v := 1) hx hb dX4_loadPortions_18 (by decide) ?_
      refine lv_icmp_lt (tgt := 28) hx hb dX4_loadPortions_19 (by decide) (fun c_19 => ?_) (fun c_19 => ?_)
      · replace hsp := (if_pos c_19).symm.trans hsp
        refine lv_bipush (v := (-2)) hx hb dX4_loadPortions_28 (by decide) ?_
        exact W.iret (v := (-2)) hx hb hr (fun t ht hW => ⟨⟨(-2), r, rfl, hsp, ft_heap ht hP⟩, hS.F ht⟩) hS.2.2 dX4_loadPortions_30
      · replace hsp := (if_neg c_19).symm.trans hsp
        refine lv_iload_n hx hb dX4_loadPortions_22 rfl (lv_at hl 3 rfl) ?_
        refine lv_bipush (v := 50) hx hb dX4_loadPortions_23 (by decide) ?_
        refine lv_icmp_le (tgt := 31) hx hb dX4_loadPortions_25 (by decide) (fun c_25 => ?_) (fun c_25 => ?_)
        · replace hsp := (if_pos c_25).symm.trans hsp
          refine lv_aload_n hx hb dX4_loadPortions_31 rfl (lv_at hl 0 rfl) ?_
          refine va_get (D := dC) (ci := 6) (v := .ref (ad 1)) (C := RX4) (T := TX4) (N := 12) hx hb hts (by decide +kernel) hown hK.1 hP 0 (ft_get' (by decide) rfl) rfl 0 (by decide) (hts (.fieldLink RX4 11 "FoodTruckRota$Square" "trucks" "[LFoodTruckRota$Truck;") (by decide +kernel)) (fun _ h9 => h9) rfl dX4_loadPortions_32 ?_
          refine lv_iload_n hx hb dX4_loadPortions_35 rfl (lv_at hl 1 rfl) ?_
          have h_36 : vp_in x1 6 := by first | assumption | exact isTruck_in (by assumption) | exact isDish_in (by assumption)
          refine va_aldq (C := RX6) hx hb hK.1 hP 1 1 (ft_get' (by decide) rfl) rfl h_36 dX4_loadPortions_36 ?_
          refine W.eq (g2 := F0 m 37 ls [.ref (ft_at ad (tn x1) 0)]) rfl ?_
          refine va_getN (D := dC) (ci := 8) (v := .ref (ft_at ad (tn x1) 1)) (C := RX6) (T := TX6) (N := 6) hx hb hts (by decide +kernel) hown hK.1 (ft_S_P hP (ft_tn h_36)) 0 (ft_get' (by decide) rfl) rfl 0 (by decide) (ft_nl hK.2 0 rfl) (fun _ h9 => h9) rfl dX4_loadPortions_37 ?_
          refine lv_astore (lv' := [(4, .ref (ft_at ad (tn x1) 1)), (0, .ref (ad 0)), (1, .int (x1)), (2, .int (x2)), (3, .int (x3))]) hx hb dX4_loadPortions_40 hl (by decide) rfl (fun ls hl => ?_)
          refine lv_aload hx hb dX4_loadPortions_42 (lv_at hl 0 rfl) ?_
          refine lv_iload_n hx hb dX4_loadPortions_44 rfl (lv_at hl 3 rfl) ?_
          have h_45 : vp_in x2 4 := by first | assumption | exact isTruck_in (by assumption) | exact isDish_in (by assumption)
          refine va_iald hx hb hK.1 (ft_S_P hP (ft_tn h_36)) 1 0 (ft_get' (by decide) rfl) rfl h_45 dX4_loadPortions_45 ?_
          refine lv_iload_n hx hb dX4_loadPortions_46 rfl (lv_at hl 4 rfl) ?_
          refine lv_iadd hx hb dX4_loadPortions_47 ?_
          refine lv_bipush (v := 99) hx hb dX4_loadPortions_48 (by decide) ?_
          refine lv_icmp_le (tgt := 56) hx hb dX4_loadPortions_50 (by decide) (fun c_50 => ?_) (fun c_50 => ?_)
          · replace hsp := (if_pos c_50).symm.trans hsp
            refine lv_aload hx hb dX4_loadPortions_56 (lv_at hl 0 rfl) ?_
            refine lv_iload_n hx hb dX4_loadPortions_58 rfl (lv_at hl 3 rfl) ?_
            refine lv_dup2_11 hx hb dX4_loadPortions_59 rfl rfl ?_
            have h_60 : vp_in x2 4 := by first | assumption | exact isTruck_in (by assumption) | exact isDish_in (by assumption)
            refine va_iald hx hb hK.1 (ft_S_P hP (ft_tn h_36)) 1 0 (ft_get' (by decide) rfl) rfl h_60 dX4_loadPortions_60 ?_
            refine lv_iload_n hx hb dX4_loadPortions_61 rfl (lv_at hl 4 rfl) ?_
            refine lv_iadd hx hb dX4_loadPortions_62 ?_
            have h_63 : vp_in x2 4 := by first | assumption | exact isTruck_in (by assumption) | exact isDish_in (by assumption)
            refine va_iast hx hb hK.1 hP hD hS (5 + 3 * (tn x1) + 1) 0 (ft_get' (by have := (ft_tn h_36); omega) (ft_S_T (by decide))) rfl h_63 dX4_loadPortions_63 (fun H locs hP hD hS => ?_)
            have hP := ft_cast hP (ft_S_upT (i := (tn x1)) (x := 1) (r := r) (by decide) (ft_T_a1 (ft_tn h_63)) (ft_up_a1 (ft_tn h_63)))
            have hD := ft_castD hD (ft_S_upT (i := (tn x1)) (x := 1) (r := r) (by decide) (ft_T_a1 (ft_tn h_63)) (ft_up_a1 (ft_tn h_63)))
            have hP : va_P dC vwCl (ft_WS ad k (va_up r (51 + 17 * (tn x1) + 4 + tn x2) ((ft_ar r (51 + 17 * (tn x1) + 4) 4 (tn x2)) + x3))) H := hP
            have hD : va_D (ft_A 23 ad) (ft_WS ad k (va_up r (51 + 17 * (tn x1) + 4 + tn x2) ((ft_ar r (51 + 17 * (tn x1) + 4) 4 (tn x2)) + x3))) := hD
            refine lv_aload hx hb dX4_loadPortions_64 (lv_at hl 0 rfl) ?_
            refine lv_iload_n hx hb dX4_loadPortions_66 rfl (lv_at hl 3 rfl) ?_
            have h_67 : vp_in x2 4 := by first | assumption | exact isTruck_in (by assumption) | exact isDish_in (by assumption)
            refine va_iald hx hb hK.1 (ft_S_P hP (ft_tn h_36)) 1 0 (ft_get' (by decide) rfl) rfl h_67 dX4_loadPortions_67 ?_
            exact W.iret (v := ft_ar (va_up r (51 + 17 * (tn x1) + 4 + tn x2) ((ft_ar r (51 + 17 * (tn x1) + 4) 4 (tn x2)) + x3)) (51 + 17 * (tn x1) + 4) 4 (tn x2)) hx hb hr (fun t ht hW => ⟨⟨ft_ar (va_up r (51 + 17 * (tn x1) + 4 + tn x2) ((ft_ar r (51 + 17 * (tn x1) + 4) 4 (tn x2)) + x3)) (51 + 17 * (tn x1) + 4) 4 (tn x2), (va_up r (51 + 17 * (tn x1) + 4 + tn x2) ((ft_ar r (51 + 17 * (tn x1) + 4) 4 (tn x2)) + x3)), rfl, hsp, ft_heap ht hP⟩, hS.F ht⟩) hS.2.2 dX4_loadPortions_68
          · replace hsp := (if_neg c_50).symm.trans hsp
            refine lv_bipush (v := (-4)) hx hb dX4_loadPortions_53 (by decide) ?_
            exact W.iret (v := (-4)) hx hb hr (fun t ht hW => ⟨⟨(-4), r, rfl, hsp, ft_heap ht hP⟩, hS.F ht⟩) hS.2.2 dX4_loadPortions_55
        · replace hsp := (if_neg c_25).symm.trans hsp
          refine lv_bipush (v := (-2)) hx hb dX4_loadPortions_28 (by decide) ?_
          exact W.iret (v := (-2)) hx hb hr (fun t ht hW => ⟨⟨(-2), r, rfl, hsp, ft_heap ht hP⟩, hS.F ht⟩) hS.2.2 dX4_loadPortions_30
    · replace hsp := (if_pos c_12).symm.trans hsp
      refine lv_iconst (v := (-1)) hx hb dX4_loadPortions_15 (by decide) ?_
      exact W.iret (v := (-1)) hx hb hr (fun t ht hW => ⟨⟨(-1), r, rfl, hsp, ft_heap ht hP⟩, hS.F ht⟩) hS.2.2 dX4_loadPortions_16

def s_X4_changePrice (r : Nat → Int32) (x1 : Int32) (x2 : Int32) : Int32 × (Nat → Int32) := if (s_X7_isDish x1) = 0 then (((-1), r)) else (if x2 < 1 then (((-2), r)) else (if x2 ≤ 20 then ((ft_ar r (8) 4 (tn x1), va_up r (8 + tn x1) x2)) else (((-2), r))))
set_option maxHeartbeats 4000000 in
set_option maxRecDepth 100000 in
theorem c_X4_changePrice (l : Launch) (dC : va_G) (ad : Nat → Nat) (k : Nat → ClassId) (r : Nat → Int32) (x1 : Int32) (x2 : Int32) : Met l yX4_changePrice wsX4_changePrice ({ frames := 1, cells := 0, slots := 0, locals := 20 }) (ft_Pd dC k [.ref (ad 0), .int x1, .int x2] (ft_WS ad k r)) (va_Qi (fun (z : Int32) (u : Nat → Int32) => (z, u) = s_X4_changePrice r x1 x2) (fun (u : Nat → Int32) (t : State) => va_P dC vwCl (ft_WS ad k u) t.heap) (ft_A 23 ad)) 0 0 (ft_A 23 ad) := by
  refine Met.ofW (cc := cX4_changePrice) (maxL := 4) (ret := (some .int)) (by decide) rfl ?_
  intro p e s m args below meth c s₁ B hml hv
  obtain ⟨hargs, hP, hK, hD0⟩ := hv
  subst hargs
  have hx := B.exec
  have hb := B.bytes
  have hr := B.returns
  have hts := atoms_spec (ws := wsX4_changePrice) B.pre
  have hown : s.vm.findClass RX4 = some m.cls := findClass_of_methodNamed B.named
  have hlocks := B.notSynchronized
  have hD := ft_D_self hD0
  have hS : va_S (ft_A 23 ad) s.heap s.heap [] := va_S.rf
  have hl := lv_entry ([.ref (ad 0), .int x1, .int x2]) (n := 4) (Nat.le_of_ble_eq_true rfl)
  rw [lg_entry_eq]
  generalize (lg_sl ([.ref (ad 0), .int x1, .int x2]) ++ List.replicate (4 - (lg_sl ([.ref (ad 0), .int x1, .int x2])).length) Slot.unset).toArray = ls at hl ⊢
  have hl : lv_has ls 4 [(0, .ref (ad 0)), (1, .int (x1)), (2, .int (x2))] := hl
  have hsp := (s_X4_changePrice.eq_1 r x1 x2).symm
  refine lv_iload_n hx hb dX4_changePrice_0 rfl (lv_at hl 1 rfl) ?_
  refine vp_callSi (va_Run.run (va_runSN (As := [.int (x1)]) (rest := []) ⟨hx, hb, hml, hown, hts⟩ (c_X7_isDish l x1) ⟨va_cnB 1 hts ggX4_changePrice_X7_isDish rfl rfl rfl (ft_nm hK.2 2 rfl) (hts (.initialized RX7) (by decide +kernel)) (by decide +kernel) ⟨Nat.le_of_ble_eq_true rfl, Nat.le_of_ble_eq_true rfl⟩, hts (.static yX7_isDish) (by decide +kernel), trivial⟩ ft_preSn rfl rfl hl.1 rfl (lv_room (Nat.le_of_ble_eq_true rfl)) dX4_changePrice_1 ⟨Nat.le_of_ble_eq_true rfl, Nat.le_of_ble_eq_true rfl⟩)) (fun z hz => ?_)
  subst hz
  refine lv_if_ne (tgt := 9) hx hb dX4_changePrice_4 (by decide) (fun c_4 => ?_) (fun c_4 => ?_)
  · replace hsp := (if_neg c_4).symm.trans hsp
    refine lv_iload_n hx hb dX4_changePrice_9 rfl (lv_at hl 2 rfl) ?_
    refine lv_iconst (v := 1) hx hb dX4_changePrice_10 (by decide) ?_
    refine lv_icmp_lt (tgt := 20) hx hb dX4_changePrice_11 (by decide) (fun c_11 => ?_) (fun c_11 => ?_)
    · replace hsp := (if_pos c_11).symm.trans hsp
      refine lv_bipush (v := (-2)) hx hb dX4_changePrice_20 (by decide) ?_
      exact W.iret (v := (-2)) hx hb hr (fun t ht hW => ⟨⟨(-2), r, rfl, hsp, ft_heap ht hP⟩, hS.F ht⟩) hS.2.2 dX4_changePrice_22
    · replace hsp := (if_neg c_11).symm.trans hsp
      refine lv_iload_n hx hb dX4_changePrice_14 rfl (lv_at hl 2 rfl) ?_
      refine lv_bipush (v := 20) hx hb dX4_changePrice_15 (by decide) ?_
      refine lv_icmp_le (tgt := 23) hx hb dX4_changePrice_17 (by decide) (fun c_17 => ?_) (fun c_17 => ?_)
      · replace hsp := (if_pos c_17).symm.trans hsp
        refine lv_aload_n hx hb dX4_changePrice_23 rfl (lv_at hl 0 rfl) ?_
        refine va_get (D := dC) (ci := 6) (v := .ref (ad 3)) (C := RX4) (T := TX4) (N := 12) hx hb hts (by decide +kernel) hown hK.1 hP 0 (ft_get' (by decide) rfl) rfl 2 (by decide) (hts (.fieldLink RX4 21 "FoodTruckRota$Square" "prices" "[I") (by decide +kernel)) (fun _ h9 => h9) rfl dX4_changePrice_24 ?_
        refine lv_iload_n hx hb dX4_changePrice_27 rfl (lv_at hl 1 rfl) ?_
        have h_28 : vp_in x1 4 := by first | assumption | exact isTruck_in (by assumption) | exact isDish_in (by assumption)
        refine va_iald hx hb hK.1 hP 3 0 (ft_get' (by decide) rfl) rfl h_28 dX4_changePrice_28 ?_
        refine lv_istore_n (lv' := [(3, .int (ft_ar r (8) 4 (tn x1))), (0, .ref (ad 0)), (1, .int (x1)), (2, .int (x2))]) hx hb dX4_changePrice_29 rfl hl (by decide) rfl (fun ls hl => ?_)
        refine lv_aload_n hx hb dX4_changePrice_30 rfl (lv_at hl 1 rfl) ?_
        refine va_get (D := dC) (ci := 6) (v := .ref (ad 3)) (C := RX4) (T := TX4) (N := 12) hx hb hts (by decide +kernel) hown hK.1 hP 0 (ft_get' (by decide) rfl) rfl 2 (by decide) (hts (.fieldLink RX4 21 "FoodTruckRota$Square" "prices" "[I") (by decide +kernel)) (fun _ h9 => h9) rfl dX4_changePrice_31 ?_
        refine lv_iload_n hx hb dX4_changePrice_34 rfl (lv_at hl 2 rfl) ?_
        refine lv_iload_n hx hb dX4_changePrice_35 rfl (lv_at hl 3 rfl) ?_
        have h_36 : vp_in x1 4 := by first | assumption | exact isTruck_in (by assumption) | exact isDish_in (by assumption)
        refine va_iast hx hb hK.1 hP hD hS 3 0 (ft_get' (by decide) rfl) rfl h_36 dX4_changePrice_36 (fun H locs hP hD hS => ?_)
        have hP := ft_cast hP (ft_S_aq (ft_tn h_36))
        have hD := ft_castD hD (ft_S_aq (ft_tn h_36))
        have hP : va_P dC vwCl (ft_WS ad k (va_up r (8 + tn x1) x2)) H := hP
        have hD : va_D (ft_A 23 ad) (ft_WS ad k (va_up r (8 + tn x1) x2)) := hD
        refine lv_iload_n hx hb dX4_changePrice_37 rfl (lv_at hl 0 rfl) ?_
        exact W.iret (v := ft_ar r (8) 4 (tn x1)) hx hb hr (fun t ht hW => ⟨⟨ft_ar r (8) 4 (tn x1), (va_up r (8 + tn x1) x2), rfl, hsp, ft_heap ht hP⟩, hS.F ht⟩) hS.2.2 dX4_changePrice_38
      · replace hsp := (if_neg c_17).symm.trans hsp
        refine lv_bipush (v := (-2)) hx hb dX4_changePrice_20 (by decide) ?_
        exact W.iret (v := (-2)) hx hb hr (fun t ht hW => ⟨⟨(-2), r, rfl, hsp, ft_heap ht hP⟩, hS.F ht⟩) hS.2.2 dX4_changePrice_22
  · replace hsp := (if_pos c_4).symm.trans hsp
    refine lv_iconst (v := (-1)) hx hb dX4_changePrice_7 (by decide) ?_
    exact W.iret (v := (-1)) hx hb hr (fun t ht hW => ⟨⟨(-1), r, rfl, hsp, ft_heap ht hP⟩, hS.F ht⟩) hS.2.2 dX4_changePrice_8

def s_X4_changeWeather (r : Nat → Int32) (x1 : Int32) : Int32 × (Nat → Int32) := if x1 < 0 then (((-2), r)) else (if x1 ≤ 3 then ((r 3, va_up r 3 x1)) else (((-2), r)))
set_option maxHeartbeats 4000000 in
set_option maxRecDepth 100000 in
theorem c_X4_changeWeather (l : Launch) (dC : va_G) (ad : Nat → Nat) (k : Nat → ClassId) (r : Nat → Int32) (x1 : Int32) : Met l yX4_changeWeather wsX4_changeWeather ({ frames := 0, cells := 0, slots := 0, locals := 0 }) (ft_Pd dC k [.ref (ad 0), .int x1] (ft_WS ad k r)) (va_Qi (fun (z : Int32) (u : Nat → Int32) => (z, u) = s_X4_changeWeather r x1) (fun (u : Nat → Int32) (t : State) => va_P dC vwCl (ft_WS ad k u) t.heap) (ft_A 23 ad)) 0 0 (ft_A 23 ad) := by
  refine Met.ofW (cc := cX4_changeWeather) (maxL := 3) (ret := (some .int)) (by decide) rfl ?_
  intro p e s m args below meth c s₁ B hml hv
  obtain ⟨hargs, hP, hK, hD0⟩ := hv
  subst hargs
  have hx := B.exec
  have hb := B.bytes
  have hr := B.returns
  have hts := atoms_spec (ws := wsX4_changeWeather) B.pre
  have hown : s.vm.findClass RX4 = some m.cls := findClass_of_methodNamed B.named
  have hlocks := B.notSynchronized
  have hD := ft_D_self hD0
  have hS : va_S (ft_A 23 ad) s.heap s.heap [] := va_S.rf
  have hl := lv_entry ([.ref (ad 0), .int x1]) (n := 3) (Nat.le_of_ble_eq_true rfl)
  rw [lg_entry_eq]
  generalize (lg_sl ([.ref (ad 0), .int x1]) ++ List.replicate (3 - (lg_sl ([.ref (ad 0), .int x1])).length) Slot.unset).toArray = ls at hl ⊢
  have hl : lv_has ls 3 [(0, .ref (ad 0)), (1, .int (x1))] := hl
  have hsp := (s_X4_changeWeather.eq_1 r x1).symm
  refine lv_iload_n hx hb dX4_changeWeather_0 rfl (lv_at hl 1 rfl) ?_
  refine lv_if_lt (tgt := 9) hx hb dX4_changeWeather_1 (by decide) (fun c_1 => ?_) (fun c_1 => ?_)
  · replace hsp := (if_pos c_1).symm.trans hsp
    refine lv_bipush (v := (-2)) hx hb dX4_changeWeather_9 (by decide) ?_
    exact W.iret (v := (-2)) hx hb hr (fun t ht hW => ⟨⟨(-2), r, rfl, hsp, ft_heap ht hP⟩, hS.F ht⟩) hS.2.2 dX4_changeWeather_11
  · replace hsp := (if_neg c_1).symm.trans hsp
    refine lv_iload_n hx hb dX4_changeWeather_4 rfl (lv_at hl 1 rfl) ?_
    refine lv_iconst (v := 3) hx hb dX4_changeWeather_5 (by decide) ?_
    refine lv_icmp_le (tgt := 12) hx hb dX4_changeWeather_6 (by decide) (fun c_6 => ?_) (fun c_6 => ?_)
    · replace hsp := (if_pos c_6).symm.trans hsp
      refine lv_aload_n hx hb dX4_changeWeather_12 rfl (lv_at hl 0 rfl) ?_
      refine va_get (D := dC) (ci := 6) (v := .int (r 3)) (C := RX4) (T := TX4) (N := 12) hx hb hts (by decide +kernel) hown hK.1 hP 0 (ft_get' (by decide) rfl) rfl 7 (by decide) (hts (.fieldLink RX4 27 "FoodTruckRota$Square" "customersPerMinute" "I") (by decide +kernel)) (fun _ h9 => h9) rfl dX4_changeWeather_13 ?_
      refine lv_istore_n (lv' := [(2, .int (r 3)), (0, .ref (ad 0)), (1, .int (x1))]) hx hb dX4_changeWeather_16 rfl hl (by decide) rfl (fun ls hl => ?_)
      refine lv_aload_n hx hb dX4_changeWeather_17 rfl (lv_at hl 1 rfl) ?_
      refine lv_iload_n hx hb dX4_changeWeather_18 rfl (lv_at hl 2 rfl) ?_
      refine va_put (D := dC) (ci := 6) (v := .int (x1)) (ty := .int) (C := RX4) (T := TX4) (N := 12) hx hb hts (by decide +kernel) tyX4 tyX4_ok nmX4 hown hK.1 hP hD hS 0 (ft_get' (by decide) rfl) rfl 7 (by decide) (hts (.fieldLink RX4 27 "FoodTruckRota$Square" "customersPerMinute" "I") (by decide +kernel)) (fun _ h9 => h9) rfl (by decide +kernel) rfl rfl (Nat.le_of_ble_eq_true rfl) dX4_changeWeather_19 (fun H locs hP hD hS => ?_)
      have hP := ft_cast hP ft_S_p3
      have hD := ft_castD hD ft_S_p3
      have hP : va_P dC vwCl (ft_WS ad k (va_up r 3 x1)) H := hP
      have hD : va_D (ft_A 23 ad) (ft_WS ad k (va_up r 3 x1)) := hD
      refine lv_iload_n hx hb dX4_changeWeather_22 rfl (lv_at hl 0 rfl) ?_
      exact W.iret (v := r 3) hx hb hr (fun t ht hW => ⟨⟨r 3, (va_up r 3 x1), rfl, hsp, ft_heap ht hP⟩, hS.F ht⟩) hS.2.2 dX4_changeWeather_23
    · replace hsp := (if_neg c_6).symm.trans hsp
      refine lv_bipush (v := (-2)) hx hb dX4_changeWeather_9 (by decide) ?_
      exact W.iret (v := (-2)) hx hb hr (fun t ht hW => ⟨⟨(-2), r, rfl, hsp, ft_heap ht hP⟩, hS.F ht⟩) hS.2.2 dX4_changeWeather_11

def s_X4_givePermit (r : Nat → Int32) (x1 : Int32) (x2 : Int32) : Int32 × (Nat → Int32) := if (s_X4_isTruck r x1) = 0 then (((-1), r)) else (if (s_X7_isWeekday x2) = 0 then (((-2), r)) else (if (s_X6_isPermitted r (51 + 17 * (tn x1)) x2) = 0 then (((s_J6_bitCount_0f7a4 ((va_up r (51 + 17 * (tn x1) + 3) ((r (51 + 17 * (tn x1) + 3)) ||| (1 <<< (x2 &&& 31)))) (51 + 17 * (tn x1) + 3))), va_up r (51 + 17 * (tn x1) + 3) ((r (51 + 17 * (tn x1) + 3)) ||| (1 <<< (x2 &&& 31))))) else (((-4), r))))
set_option maxHeartbeats 4000000 in
set_option maxRecDepth 100000 in
theorem c_X4_givePermit (l : Launch) (dC : va_G) (ad : Nat → Nat) (k : Nat → ClassId) (r : Nat → Int32) (x1 : Int32) (x2 : Int32) : Met l yX4_givePermit wsX4_givePermit ({ frames := 2, cells := 0, slots := 0, locals := 41 }) (ft_Pd dC k [.ref (ad 0), .int x1, .int x2] (ft_WS ad k r)) (va_Qi (fun (z : Int32) (u : Nat → Int32) => (z, u) = s_X4_givePermit r x1 x2) (fun (u : Nat → Int32) (t : State) => va_P dC vwCl (ft_WS ad k u) t.heap) (ft_A 23 ad)) 0 0 (ft_A 23 ad) := by
  refine Met.ofW (cc := cX4_givePermit) (maxL := 3) (ret := (some .int)) (by decide) rfl ?_
  intro p e s m args below meth c s₁ B hml hv
  obtain ⟨hargs, hP, hK, hD0⟩ := hv
  subst hargs
  have hx := B.exec
  have hb := B.bytes
  have hr := B.returns
  have hts := atoms_spec (ws := wsX4_givePermit) B.pre
  have hown : s.vm.findClass RX4 = some m.cls := findClass_of_methodNamed B.named
  have hlocks := B.notSynchronized
  have hD := ft_D_self hD0
  have hS : va_S (ft_A 23 ad) s.heap s.heap [] := va_S.rf
  have hl := lv_entry ([.ref (ad 0), .int x1, .int x2]) (n := 3) (Nat.le_of_ble_eq_true rfl)
  rw [lg_entry_eq]
  generalize (lg_sl ([.ref (ad 0), .int x1, .int x2]) ++ List.replicate (3 - (lg_sl ([.ref (ad 0), .int x1, .int x2])).length) Slot.unset).toArray = ls at hl ⊢
  have hl : lv_has ls 3 [(0, .ref (ad 0)), (1, .int (x1)), (2, .int (x2))] := hl
  have hsp := (s_X4_givePermit.eq_1 r x1 x2).symm
  refine lv_aload_n hx hb dX4_givePermit_0 rfl (lv_at hl 0 rfl) ?_
  refine lv_iload_n hx hb dX4_givePermit_1 rfl (lv_at hl 1 rfl) ?_
  refine vp_callSi (va_Run.run (va_runV (As := [.int (x1)]) (rest := []) ⟨hx, hb, hml, hown, hts⟩ (c_X4_isTruck l dC ad k r x1) (cwV 1 hts gX4_givePermit_X4_isTruck rfl rfl rfl (by decide +kernel) ⟨Nat.le_of_ble_eq_true rfl, Nat.le_of_ble_eq_true rfl⟩) (ft_preVc hK hP (ci := 6) rfl (ft_get' (by decide) rfl)) rfl rfl hl.1 rfl (lv_room (Nat.le_of_ble_eq_true rfl)) dX4_givePermit_2 ⟨Nat.le_of_ble_eq_true rfl, Nat.le_of_ble_eq_true rfl⟩)) (fun z hz => ?_)
  subst hz
  refine lv_if_ne (tgt := 10) hx hb dX4_givePermit_5 (by decide) (fun c_5 => ?_) (fun c_5 => ?_)
  · replace hsp := (if_neg c_5).symm.trans hsp
    refine lv_iload_n hx hb dX4_givePermit_10 rfl (lv_at hl 2 rfl) ?_
    refine vp_callSi (va_Run.run (va_runSN (As := [.int (x2)]) (rest := []) ⟨hx, hb, hml, hown, hts⟩ (c_X7_isWeekday l x2) ⟨va_cnB 1 hts ggX4_givePermit_X7_isWeekday rfl rfl rfl (ft_nm hK.2 3 rfl) (hts (.initialized RX7) (by decide +kernel)) (by decide +kernel) ⟨Nat.le_of_ble_eq_true rfl, Nat.le_of_ble_eq_true rfl⟩, hts (.static yX7_isWeekday) (by decide +kernel), trivial⟩ ft_preSn rfl rfl hl.1 rfl (lv_room (Nat.le_of_ble_eq_true rfl)) dX4_givePermit_11 ⟨Nat.le_of_ble_eq_true rfl, Nat.le_of_ble_eq_true rfl⟩)) (fun z hz => ?_)
    subst hz
    refine lv_if_ne (tgt := 20) hx hb dX4_givePermit_14 (by decide) (fun c_14 => ?_) (fun c_14 => ?_)
    · replace hsp := (if_neg c_14).symm.trans hsp
      refine lv_aload_n hx hb dX4_givePermit_20 rfl (lv_at hl 0 rfl) ?_
      refine va_get (D := dC) (ci := 6) (v := .ref (ad 1)) (C := RX4) (T := TX4) (N := 12) hx hb hts (by decide +kernel) hown hK.1 hP 0 (ft_get' (by decide) rfl) rfl 0 (by decide) (hts (.fieldLink RX4 11 "FoodTruckRota$Square" "trucks" "[LFoodTruckRota$Truck;") (by decide +kernel)) (fun _ h9 => h9) rfl dX4_givePermit_21 ?_
      refine lv_iload_n hx hb dX4_givePermit_24 rfl (lv_at hl 1 rfl) ?_
      have h_25 : vp_in x1 6 := by first | assumption | exact isTruck_in (by assumption) | exact isDish_in (by assumption)
      refine va_aldq (C := RX6) hx hb hK.1 hP 1 1 (ft_get' (by decide) rfl) rfl h_25 dX4_givePermit_25 ?_
      refine W.eq (g2 := F0 m 26 ls [.ref (ft_at ad (tn x1) 0)]) rfl ?_
      refine lv_iload_n hx hb dX4_givePermit_26 rfl (lv_at hl 2 rfl) ?_
      refine vp_callSi (va_Run.run (va_runV (As := [.int (x2)]) (rest := []) ⟨hx, hb, hml, hown, hts⟩ (c_X6_isPermitted l dC (ft_at ad (tn x1)) k r (51 + 17 * (tn x1)) x2) (cwV 1 hts gX4_givePermit_X6_isPermitted rfl rfl rfl (by decide +kernel) ⟨Nat.le_of_ble_eq_true rfl, Nat.le_of_ble_eq_true rfl⟩) (ft_preVc hK (ft_S_P hP (ft_tn h_25)) (ci := 8) rfl (ft_get' (by decide) rfl)) rfl rfl hl.1 rfl (lv_room (Nat.le_of_ble_eq_true rfl)) dX4_givePermit_27 ⟨Nat.le_of_ble_eq_true rfl, Nat.le_of_ble_eq_true rfl⟩)) (fun z hz => ?_)
      subst hz
      refine lv_if_eq (tgt := 36) hx hb dX4_givePermit_30 (by decide) (fun c_30 => ?_) (fun c_30 => ?_)
      · replace hsp := (if_pos c_30).symm.trans hsp
        refine lv_aload_n hx hb dX4_givePermit_36 rfl (lv_at hl 0 rfl) ?_
        refine va_get (D := dC) (ci := 6) (v := .ref (ad 1)) (C := RX4) (T := TX4) (N := 12) hx hb hts (by decide +kernel) hown hK.1 hP 0 (ft_get' (by decide) rfl) rfl 0 (by decide) (hts (.fieldLink RX4 11 "FoodTruckRota$Square" "trucks" "[LFoodTruckRota$Truck;") (by decide +kernel)) (fun _ h9 => h9) rfl dX4_givePermit_37 ?_
        refine lv_iload_n hx hb dX4_givePermit_40 rfl (lv_at hl 1 rfl) ?_
        have h_41 : vp_in x1 6 := by first | assumption | exact isTruck_in (by assumption) | exact isDish_in (by assumption)
        refine va_aldq (C := RX6) hx hb hK.1 hP 1 1 (ft_get' (by decide) rfl) rfl h_41 dX4_givePermit_41 ?_
        refine W.eq (g2 := F0 m 42 ls [.ref (ft_at ad (tn x1) 0)]) rfl ?_
        refine lv_dup hx hb dX4_givePermit_42 rfl ?_
        refine va_getN (D := dC) (ci := 8) (v := .int (r (51 + 17 * (tn x1) + 3))) (C := RX6) (T := TX6) (N := 6) hx hb hts (by decide +kernel) hown hK.1 (ft_S_P hP (ft_tn h_41)) 0 (ft_get' (by decide) rfl) rfl 5 (by decide) (ft_nl hK.2 7 rfl) (fun _ h9 => h9) rfl dX4_givePermit_43 ?_
        refine lv_iconst (v := 1) hx hb dX4_givePermit_46 (by decide) ?_
        refine lv_iload_n hx hb dX4_givePermit_47 rfl (lv_at hl 2 rfl) ?_
        refine lv_ishl hx hb dX4_givePermit_48 ?_
        refine lv_ior hx hb dX4_givePermit_49 ?_
        refine va_putN (D := dC) (ci := 8) (v := .int ((r (51 + 17 * (tn x1) + 3)) ||| (1 <<< (x2 &&& 31)))) (ty := .int) (C := RX6) (T := TX6) (N := 6) hx hb hts (by decide +kernel) tyX6 tyX6_ok nmX6 hown hK.1 hP hD hS (5 + 3 * (tn x1) + 0) (ft_get' (by have := (ft_tn h_41); omega) (ft_S_T (by decide))) rfl 5 (by decide) (ft_nl hK.2 7 rfl) (fun _ h9 => h9) rfl (by decide +kernel) rfl rfl (Nat.le_of_ble_eq_true rfl) dX4_givePermit_50 (fun H locs hP hD hS => ?_)
        have hP := ft_cast hP (ft_S_upT (i := (tn x1)) (x := 0) (r := r) (by decide) ft_T_p3 (ft_up_out (by omega) (by omega)))
        have hD := ft_castD hD (ft_S_upT (i := (tn x1)) (x := 0) (r := r) (by decide) ft_T_p3 (ft_up_out (by omega) (by omega)))
        have hP : va_P dC vwCl (ft_WS ad k (va_up r (51 + 17 * (tn x1) + 3) ((r (51 + 17 * (tn x1) + 3)) ||| (1 <<< (x2 &&& 31))))) H := hP
        have hD : va_D (ft_A 23 ad) (ft_WS ad k (va_up r (51 + 17 * (tn x1) + 3) ((r (51 + 17 * (tn x1) + 3)) ||| (1 <<< (x2 &&& 31))))) := hD
        refine lv_aload_n hx hb dX4_givePermit_53 rfl (lv_at hl 0 rfl) ?_
        refine va_get (D := dC) (ci := 6) (v := .ref (ad 1)) (C := RX4) (T := TX4) (N := 12) hx hb hts (by decide +kernel) hown hK.1 hP 0 (ft_get' (by decide) rfl) rfl 0 (by decide) (hts (.fieldLink RX4 11 "FoodTruckRota$Square" "trucks" "[LFoodTruckRota$Truck;") (by decide +kernel)) (fun _ h9 => h9) rfl dX4_givePermit_54 ?_
        refine lv_iload_n hx hb dX4_givePermit_57 rfl (lv_at hl 1 rfl) ?_
        have h_58 : vp_in x1 6 := by first | assumption | exact isTruck_in (by assumption) | exact isDish_in (by assumption)
        refine va_aldq (C := RX6) hx hb hK.1 hP 1 1 (ft_get' (by decide) rfl) rfl h_58 dX4_givePermit_58 ?_
        refine W.eq (g2 := F0 m 59 ls [.ref (ft_at ad (tn x1) 0)]) rfl ?_
        refine va_getN (D := dC) (ci := 8) (v := .int ((va_up r (51 + 17 * (tn x1) + 3) ((r (51 + 17 * (tn x1) + 3)) ||| (1 <<< (x2 &&& 31)))) (51 + 17 * (tn x1) + 3))) (C := RX6) (T := TX6) (N := 6) hx hb hts (by decide +kernel) hown hK.1 (ft_S_P hP (ft_tn h_58)) 0 (ft_get' (by decide) rfl) rfl 5 (by decide) (ft_nl hK.2 7 rfl) (fun _ h9 => h9) rfl dX4_givePermit_59 ?_
        refine vp_callSi (va_Run.run (va_runS (As := [.int ((va_up r (51 + 17 * (tn x1) + 3) ((r (51 + 17 * (tn x1) + 3)) ||| (1 <<< (x2 &&& 31)))) (51 + 17 * (tn x1) + 3))]) (rest := []) ⟨hx, hb, hml, hown, hts⟩ (c_J6_bitCount_0f7a4 l ((va_up r (51 + 17 * (tn x1) + 3) ((r (51 + 17 * (tn x1) + 3)) ||| (1 <<< (x2 &&& 31)))) (51 + 17 * (tn x1) + 3))) (va_cwS 1 hts gX4_givePermit_J6_bitCount_0f7a4 rfl rfl rfl (by decide +kernel) ⟨Nat.le_of_ble_eq_true rfl, Nat.le_of_ble_eq_true rfl⟩) ft_preSn rfl rfl hl.1 rfl (lv_room (Nat.le_of_ble_eq_true rfl)) dX4_givePermit_62 ⟨Nat.le_of_ble_eq_true rfl, Nat.le_of_ble_eq_true rfl⟩)) (fun z hz => ?_)
        subst hz
        exact W.iret (v := (s_J6_bitCount_0f7a4 ((va_up r (51 + 17 * (tn x1) + 3) ((r (51 + 17 * (tn x1) + 3)) ||| (1 <<< (x2 &&& 31)))) (51 + 17 * (tn x1) + 3)))) hx hb hr (fun t ht hW => ⟨⟨(s_J6_bitCount_0f7a4 ((va_up r (51 + 17 * (tn x1) + 3) ((r (51 + 17 * (tn x1) + 3)) ||| (1 <<< (x2 &&& 31)))) (51 + 17 * (tn x1) + 3))), (va_up r (51 + 17 * (tn x1) + 3) ((r (51 + 17 * (tn x1) + 3)) ||| (1 <<< (x2 &&& 31)))), rfl, hsp, ft_heap ht hP⟩, hS.F ht⟩) hS.2.2 dX4_givePermit_65
      · replace hsp := (if_neg c_30).symm.trans hsp
        refine lv_bipush (v := (-4)) hx hb dX4_givePermit_33 (by decide) ?_
        exact W.iret (v := (-4)) hx hb hr (fun t ht hW => ⟨⟨(-4), r, rfl, hsp, ft_heap ht hP⟩, hS.F ht⟩) hS.2.2 dX4_givePermit_35
    · replace hsp := (if_pos c_14).symm.trans hsp
      refine lv_bipush (v := (-2)) hx hb dX4_givePermit_17 (by decide) ?_
      exact W.iret (v := (-2)) hx hb hr (fun t ht hW => ⟨⟨(-2), r, rfl, hsp, ft_heap ht hP⟩, hS.F ht⟩) hS.2.2 dX4_givePermit_19
  · replace hsp := (if_pos c_5).symm.trans hsp
    refine lv_iconst (v := (-1)) hx hb dX4_givePermit_8 (by decide) ?_
    exact W.iret (v := (-1)) hx hb hr (fun t ht hW => ⟨⟨(-1), r, rfl, hsp, ft_heap ht hP⟩, hS.F ht⟩) hS.2.2 dX4_givePermit_9

def s_X4_endAssignment (r : Nat → Int32) (x1 : Int32) (x2 : Int32) : (Nat → Int32) := if x2 = (s_X4_today (s_X4_setHolder r x1 x2 (-1))) then (if (s_X4_isTruck (s_X4_setHolder r x1 x2 (-1)) (s_X4_holderOf r x1 x2)) = 0 then ((s_X4_setHolder r x1 x2 (-1))) else (va_up ((s_X6_sendAllAway (s_X4_setHolder r x1 x2 (-1)) (51 + 17 * (tn (s_X4_holderOf r x1 x2)))).2) 6 (((s_X4_setHolder r x1 x2 (-1)) 6) + ((s_X6_sendAllAway (s_X4_setHolder r x1 x2 (-1)) (51 + 17 * (tn (s_X4_holderOf r x1 x2)))).1)))) else ((s_X4_setHolder r x1 x2 (-1)))
set_option maxHeartbeats 4000000 in
set_option maxRecDepth 100000 in
theorem c_X4_endAssignment (l : Launch) (dC : va_G) (ad : Nat → Nat) (k : Nat → ClassId) (r : Nat → Int32) (x1 : Int32) (x2 : Int32) : Met l yX4_endAssignment wsX4_endAssignment ({ frames := 2, cells := 0, slots := 0, locals := 43 }) (ft_Pd dC k [.ref (ad 0), .int x1, .int x2] (ft_WS ad k r)) (va_Qv (fun u : Nat → Int32 => u = s_X4_endAssignment r x1 x2) (fun (u : Nat → Int32) (t : State) => va_P dC vwCl (ft_WS ad k u) t.heap) (ft_A 23 ad)) 0 0 (ft_A 23 ad) := by
  refine Met.ofW (cc := cX4_endAssignment) (maxL := 4) (ret := none) (by decide) rfl ?_
  intro p e s m args below meth c s₁ B hml hv
  obtain ⟨hargs, hP, hK, hD0⟩ := hv
  subst hargs
  have hx := B.exec
  have hb := B.bytes
  have hr := B.returns
  have hts := atoms_spec (ws := wsX4_endAssignment) B.pre
  have hown : s.vm.findClass RX4 = some m.cls := findClass_of_methodNamed B.named
  have hlocks := B.notSynchronized
  have hD := ft_D_self hD0
  have hS : va_S (ft_A 23 ad) s.heap s.heap [] := va_S.rf
  have hl := lv_entry ([.ref (ad 0), .int x1, .int x2]) (n := 4) (Nat.le_of_ble_eq_true rfl)
  rw [lg_entry_eq]
  generalize (lg_sl ([.ref (ad 0), .int x1, .int x2]) ++ List.replicate (4 - (lg_sl ([.ref (ad 0), .int x1, .int x2])).length) Slot.unset).toArray = ls at hl ⊢
  have hl : lv_has ls 4 [(0, .ref (ad 0)), (1, .int (x1)), (2, .int (x2))] := hl
  have hsp := (s_X4_endAssignment.eq_1 r x1 x2).symm
  refine lv_aload_n hx hb dX4_endAssignment_0 rfl (lv_at hl 0 rfl) ?_
  refine lv_iload_n hx hb dX4_endAssignment_1 rfl (lv_at hl 1 rfl) ?_
  refine lv_iload_n hx hb dX4_endAssignment_2 rfl (lv_at hl 2 rfl) ?_
  refine vp_callSi (va_Run.run (va_runV (As := [.int (x1), .int (x2)]) (rest := []) ⟨hx, hb, hml, hown, hts⟩ (c_X4_holderOf l dC ad k r x1 x2) (cwV 2 hts gX4_endAssignment_X4_holderOf rfl rfl rfl (by decide +kernel) ⟨Nat.le_of_ble_eq_true rfl, Nat.le_of_ble_eq_true rfl⟩) (ft_preVc hK hP (ci := 6) rfl (ft_get' (by decide) rfl)) rfl rfl hl.1 rfl (lv_room (Nat.le_of_ble_eq_true rfl)) dX4_endAssignment_3 ⟨Nat.le_of_ble_eq_true rfl, Nat.le_of_ble_eq_true rfl⟩)) (fun z hz => ?_)
  subst hz
  refine lv_istore_n (lv' := [(3, .int ((s_X4_holderOf r x1 x2))), (0, .ref (ad 0)), (1, .int (x1)), (2, .int (x2))]) hx hb dX4_endAssignment_6 rfl hl (by decide) rfl (fun ls hl => ?_)
  refine lv_aload_n hx hb dX4_endAssignment_7 rfl (lv_at hl 1 rfl) ?_
  refine lv_iload_n hx hb dX4_endAssignment_8 rfl (lv_at hl 2 rfl) ?_
  refine lv_iload_n hx hb dX4_endAssignment_9 rfl (lv_at hl 3 rfl) ?_
  refine lv_iconst (v := (-1)) hx hb dX4_endAssignment_10 (by decide) ?_
  refine va_callv (va_runV (As := [.int (x1), .int (x2), .int ((-1))]) (rest := []) ⟨hx, hb, hml, hown, hts⟩ (c_X4_setHolder l dC ad k r x1 x2 (-1)) (cwV 3 hts gX4_endAssignment_X4_setHolder rfl rfl rfl (by decide +kernel) ⟨Nat.le_of_ble_eq_true rfl, Nat.le_of_ble_eq_true rfl⟩) (ft_preVd hK hP hD (ci := 6) rfl (ft_get' (by decide) rfl)) rfl rfl hl.1 rfl (lv_room (Nat.le_of_ble_eq_true rfl)) dX4_endAssignment_11 ⟨Nat.le_of_ble_eq_true rfl, Nat.le_of_ble_eq_true rfl⟩) hS (fun q _ h => h) (fun q h => h) (fun u t H1 locs ht hvm hw hB hz1 hk1 hS => ?_)
  subst hw
  rw [ht] at hB
  have hP : va_P dC vwCl (ft_WS ad k (s_X4_setHolder r x1 x2 (-1))) H1 := hB
  have hD : va_D (ft_A 23 ad) (ft_WS ad k (s_X4_setHolder r x1 x2 (-1))) := ft_D_va hD _
  generalize H1 = H at hP hS ⊢
  refine lv_iload_n hx hb dX4_endAssignment_14 rfl (lv_at hl 3 rfl) ?_
  refine lv_aload_n hx hb dX4_endAssignment_15 rfl (lv_at hl 1 rfl) ?_
  refine vp_callSi (va_Run.run (va_runV (As := []) (rest := [.int (x2)]) ⟨hx, hb, hml, hown, hts⟩ (c_X4_today l dC ad k (s_X4_setHolder r x1 x2 (-1))) (cwV 0 hts gX4_endAssignment_X4_today rfl rfl rfl (by decide +kernel) ⟨Nat.le_of_ble_eq_true rfl, Nat.le_of_ble_eq_true rfl⟩) (ft_preVc hK hP (ci := 6) rfl (ft_get' (by decide) rfl)) rfl rfl hl.1 rfl (lv_room (Nat.le_of_ble_eq_true rfl)) dX4_endAssignment_16 ⟨Nat.le_of_ble_eq_true rfl, Nat.le_of_ble_eq_true rfl⟩)) (fun z hz => ?_)
  subst hz
  refine lv_icmp_ne (tgt := 48) hx hb dX4_endAssignment_19 (by decide) (fun c_19 => ?_) (fun c_19 => ?_)
  · replace hsp := (if_neg c_19).symm.trans hsp
    exact W.vret hx hb hr (fun t ht hW => ⟨⟨(s_X4_setHolder r x1 x2 (-1)), rfl, hsp, ft_heap ht hP⟩, hS.F ht⟩) hS.2.2 dX4_endAssignment_48
  · replace hsp := (if_pos c_19).symm.trans hsp
    refine lv_aload_n hx hb dX4_endAssignment_22 rfl (lv_at hl 1 rfl) ?_
    refine lv_iload_n hx hb dX4_endAssignment_23 rfl (lv_at hl 0 rfl) ?_
    refine vp_callSi (va_Run.run (va_runV (As := [.int ((s_X4_holderOf r x1 x2))]) (rest := []) ⟨hx, hb, hml, hown, hts⟩ (c_X4_isTruck l dC ad k (s_X4_setHolder r x1 x2 (-1)) (s_X4_holderOf r x1 x2)) (cwV 1 hts gX4_endAssignment_X4_isTruck rfl rfl rfl (by decide +kernel) ⟨Nat.le_of_ble_eq_true rfl, Nat.le_of_ble_eq_true rfl⟩) (ft_preVc hK hP (ci := 6) rfl (ft_get' (by decide) rfl)) rfl rfl hl.1 rfl (lv_room (Nat.le_of_ble_eq_true rfl)) dX4_endAssignment_24 ⟨Nat.le_of_ble_eq_true rfl, Nat.le_of_ble_eq_true rfl⟩)) (fun z hz => ?_)
    subst hz
    refine lv_if_eq (tgt := 48) hx hb dX4_endAssignment_27 (by decide) (fun c_27 => ?_) (fun c_27 => ?_)
    · replace hsp := (if_pos c_27).symm.trans hsp
      exact W.vret hx hb hr (fun t ht hW => ⟨⟨(s_X4_setHolder r x1 x2 (-1)), rfl, hsp, ft_heap ht hP⟩, hS.F ht⟩) hS.2.2 dX4_endAssignment_48
    · replace hsp := (if_neg c_27).symm.trans hsp
      refine lv_aload_n hx hb dX4_endAssignment_30 rfl (lv_at hl 1 rfl) ?_
      refine lv_dup hx hb dX4_endAssignment_31 rfl ?_
      refine va_get (D := dC) (ci := 6) (v := .int ((s_X4_setHolder r x1 x2 (-1)) 6)) (C := RX4) (T := TX4) (N := 12) hx hb hts (by decide +kernel) hown hK.1 hP 0 (ft_get' (by decide) rfl) rfl 10 (by decide) (hts (.fieldLink RX4 63 "FoodTruckRota$Square" "disappointed" "I") (by decide +kernel)) (fun _ h9 => h9) rfl dX4_endAssignment_32 ?_
      refine lv_aload_n hx hb dX4_endAssignment_35 rfl (lv_at hl 1 rfl) ?_
      refine va_get (D := dC) (ci := 6) (v := .ref (ad 1)) (C := RX4) (T := TX4) (N := 12) hx hb hts (by decide +kernel) hown hK.1 hP 0 (ft_get' (by decide) rfl) rfl 0 (by decide) (hts (.fieldLink RX4 11 "FoodTruckRota$Square" "trucks" "[LFoodTruckRota$Truck;") (by decide +kernel)) (fun _ h9 => h9) rfl dX4_endAssignment_36 ?_
      refine lv_iload_n hx hb dX4_endAssignment_39 rfl (lv_at hl 0 rfl) ?_
      have h_40 : vp_in (s_X4_holderOf r x1 x2) 6 := by first | assumption | exact isTruck_in (by assumption) | exact isDish_in (by assumption)
      refine va_aldq (C := RX6) hx hb hK.1 hP 1 1 (ft_get' (by decide) rfl) rfl h_40 dX4_endAssignment_40 ?_
      refine W.eq (g2 := F0 m 41 ls [.ref (ft_at ad (tn (s_X4_holderOf r x1 x2)) 0), .int ((s_X4_setHolder r x1 x2 (-1)) 6), .ref (ad 0)]) rfl ?_
      refine va_calli (va_runV (As := []) (rest := [.int ((s_X4_setHolder r x1 x2 (-1)) 6), .ref (ad 0)]) ⟨hx, hb, hml, hown, hts⟩ (c_X6_sendAllAway l dC (ft_at ad (tn (s_X4_holderOf r x1 x2))) k (s_X4_setHolder r x1 x2 (-1)) (51 + 17 * (tn (s_X4_holderOf r x1 x2)))) (cwV 0 hts gX4_endAssignment_X6_sendAllAway rfl rfl rfl (by decide +kernel) ⟨Nat.le_of_ble_eq_true rfl, Nat.le_of_ble_eq_true rfl⟩) (ft_preVd hK (ft_S_P hP (ft_tn h_40)) (ft_S_D hD (ft_tn h_40)) (ci := 8) rfl (ft_get' (by decide) rfl)) rfl rfl hl.1 rfl (lv_room (Nat.le_of_ble_eq_true rfl)) dX4_endAssignment_41 ⟨Nat.le_of_ble_eq_true rfl, Nat.le_of_ble_eq_true rfl⟩) hS (fun q _ h => ft_S_A hD (ft_tn h_40) q h) (fun q h => ft_S_A hD (ft_tn h_40) q h) (fun z u t H1 locs ht hvm hw hB hz1 hk1 hS => ?_)
      obtain ⟨rfl, rfl⟩ : z = (s_X6_sendAllAway (s_X4_setHolder r x1 x2 (-1)) (51 + 17 * (tn (s_X4_holderOf r x1 x2)))).1 ∧ u = (s_X6_sendAllAway (s_X4_setHolder r x1 x2 (-1)) (51 + 17 * (tn (s_X4_holderOf r x1 x2)))).2 := ⟨congrArg Prod.fst hw, congrArg Prod.snd hw⟩
      rw [ht] at hB
      have hP : va_P dC vwCl (ft_WS ad k ((s_X6_sendAllAway (s_X4_setHolder r x1 x2 (-1)) (51 + 17 * (tn (s_X4_holderOf r x1 x2)))).2)) H1 := ft_S_join hP hD (ft_tn h_40) hk1 hB (o_X6_sendAllAway _ _)
      have hD : va_D (ft_A 23 ad) (ft_WS ad k ((s_X6_sendAllAway (s_X4_setHolder r x1 x2 (-1)) (51 + 17 * (tn (s_X4_holderOf r x1 x2)))).2)) := ft_D_va hD _
      generalize H1 = H at hP hS ⊢
      refine lv_iadd hx hb dX4_endAssignment_44 ?_
      refine va_put (D := dC) (ci := 6) (v := .int (((s_X4_setHolder r x1 x2 (-1)) 6) + ((s_X6_sendAllAway (s_X4_setHolder r x1 x2 (-1)) (51 + 17 * (tn (s_X4_holderOf r x1 x2)))).1))) (ty := .int) (C := RX4) (T := TX4) (N := 12) hx hb hts (by decide +kernel) tyX4 tyX4_ok nmX4 hown hK.1 hP hD hS 0 (ft_get' (by decide) rfl) rfl 10 (by decide) (hts (.fieldLink RX4 63 "FoodTruckRota$Square" "disappointed" "I") (by decide +kernel)) (fun _ h9 => h9) rfl (by decide +kernel) rfl rfl (Nat.le_of_ble_eq_true rfl) dX4_endAssignment_45 (fun H locs hP hD hS => ?_)
      have hP := ft_cast hP ft_S_p6
      have hD := ft_castD hD ft_S_p6
      have hP : va_P dC vwCl (ft_WS ad k (va_up ((s_X6_sendAllAway (s_X4_setHolder r x1 x2 (-1)) (51 + 17 * (tn (s_X4_holderOf r x1 x2)))).2) 6 (((s_X4_setHolder r x1 x2 (-1)) 6) + ((s_X6_sendAllAway (s_X4_setHolder r x1 x2 (-1)) (51 + 17 * (tn (s_X4_holderOf r x1 x2)))).1)))) H := hP
      have hD : va_D (ft_A 23 ad) (ft_WS ad k (va_up ((s_X6_sendAllAway (s_X4_setHolder r x1 x2 (-1)) (51 + 17 * (tn (s_X4_holderOf r x1 x2)))).2) 6 (((s_X4_setHolder r x1 x2 (-1)) 6) + ((s_X6_sendAllAway (s_X4_setHolder r x1 x2 (-1)) (51 + 17 * (tn (s_X4_holderOf r x1 x2)))).1)))) := hD
      exact W.vret hx hb hr (fun t ht hW => ⟨⟨(va_up ((s_X6_sendAllAway (s_X4_setHolder r x1 x2 (-1)) (51 + 17 * (tn (s_X4_holderOf r x1 x2)))).2) 6 (((s_X4_setHolder r x1 x2 (-1)) 6) + ((s_X6_sendAllAway (s_X4_setHolder r x1 x2 (-1)) (51 + 17 * (tn (s_X4_holderOf r x1 x2)))).1))), rfl, hsp, ft_heap ht hP⟩, hS.F ht⟩) hS.2.2 dX4_endAssignment_48

def s_X4_takePermit (r : Nat → Int32) (x1 : Int32) (x2 : Int32) : Int32 × (Nat → Int32) := if (s_X4_isTruck r x1) = 0 then (((-1), r)) else (if (s_X7_isWeekday x2) = 0 then (((-2), r)) else (if (s_X6_isPermitted r (51 + 17 * (tn x1)) x2) = 0 then (((-4), r)) else (if (s_X4_pitchHeldBy (va_up r (51 + 17 * (tn x1) + 3) ((r (51 + 17 * (tn x1) + 3)) &&& ((1 <<< (x2 &&& 31)) ^^^ (-1)))) x1 x2) = (-1) then ((0, va_up r (51 + 17 * (tn x1) + 3) ((r (51 + 17 * (tn x1) + 3)) &&& ((1 <<< (x2 &&& 31)) ^^^ (-1))))) else ((1, (s_X4_endAssignment (va_up r (51 + 17 * (tn x1) + 3) ((r (51 + 17 * (tn x1) + 3)) &&& ((1 <<< (x2 &&& 31)) ^^^ (-1)))) (s_X4_pitchHeldBy (va_up r (51 + 17 * (tn x1) + 3) ((r (51 + 17 * (tn x1) + 3)) &&& ((1 <<< (x2 &&& 31)) ^^^ (-1)))) x1 x2) x2))))))
set_option maxHeartbeats 4000000 in
set_option maxRecDepth 100000 in
theorem c_X4_takePermit (l : Launch) (dC : va_G) (ad : Nat → Nat) (k : Nat → ClassId) (r : Nat → Int32) (x1 : Int32) (x2 : Int32) : Met l yX4_takePermit wsX4_takePermit ({ frames := 3, cells := 0, slots := 0, locals := 66 }) (ft_Pd dC k [.ref (ad 0), .int x1, .int x2] (ft_WS ad k r)) (va_Qi (fun (z : Int32) (u : Nat → Int32) => (z, u) = s_X4_takePermit r x1 x2) (fun (u : Nat → Int32) (t : State) => va_P dC vwCl (ft_WS ad k u) t.heap) (ft_A 23 ad)) 0 0 (ft_A 23 ad) := by
  refine Met.ofW (cc := cX4_takePermit) (maxL := 4) (ret := (some .int)) (by decide) rfl ?_
  intro p e s m args below meth c s₁ B hml hv
  obtain ⟨hargs, hP, hK, hD0⟩ := hv
  subst hargs
  have hx := B.exec
  have hb := B.bytes
  have hr := B.returns
  have hts := atoms_spec (ws := wsX4_takePermit) B.pre
  have hown : s.vm.findClass RX4 = some m.cls := findClass_of_methodNamed B.named
  have hlocks := B.notSynchronized
  have hD := ft_D_self hD0
  have hS : va_S (ft_A 23 ad) s.heap s.heap [] := va_S.rf
  have hl := lv_entry ([.ref (ad 0), .int x1, .int x2]) (n := 4) (Nat.le_of_ble_eq_true rfl)
  rw [lg_entry_eq]
  generalize (lg_sl ([.ref (ad 0), .int x1, .int x2]) ++ List.replicate (4 - (lg_sl ([.ref (ad 0), .int x1, .int x2])).length) Slot.unset).toArray = ls at hl ⊢
  have hl : lv_has ls 4 [(0, .ref (ad 0)), (1, .int (x1)), (2, .int (x2))] := hl
  have hsp := (s_X4_takePermit.eq_1 r x1 x2).symm
  refine lv_aload_n hx hb dX4_takePermit_0 rfl (lv_at hl 0 rfl) ?_
  refine lv_iload_n hx hb dX4_takePermit_1 rfl (lv_at hl 1 rfl) ?_
  refine vp_callSi (va_Run.run (va_runV (As := [.int (x1)]) (rest := []) ⟨hx, hb, hml, hown, hts⟩ (c_X4_isTruck l dC ad k r x1) (cwV 1 hts gX4_takePermit_X4_isTruck rfl rfl rfl (by decide +kernel) ⟨Nat.le_of_ble_eq_true rfl, Nat.le_of_ble_eq_true rfl⟩) (ft_preVc hK hP (ci := 6) rfl (ft_get' (by decide) rfl)) rfl rfl hl.1 rfl (lv_room (Nat.le_of_ble_eq_true rfl)) dX4_takePermit_2 ⟨Nat.le_of_ble_eq_true rfl, Nat.le_of_ble_eq_true rfl⟩)) (fun z hz => ?_)
  subst hz
  refine lv_if_ne (tgt := 10) hx hb dX4_takePermit_5 (by decide) (fun c_5 => ?_) (fun c_5 => ?_)
  · replace hsp := (if_neg c_5).symm.trans hsp
    refine lv_iload_n hx hb dX4_takePermit_10 rfl (lv_at hl 2 rfl) ?_
    refine vp_callSi (va_Run.run (va_runSN (As := [.int (x2)]) (rest := []) ⟨hx, hb, hml, hown, hts⟩ (c_X7_isWeekday l x2) ⟨va_cnB 1 hts ggX4_takePermit_X7_isWeekday rfl rfl rfl (ft_nm hK.2 3 rfl) (hts (.initialized RX7) (by decide +kernel)) (by decide +kernel) ⟨Nat.le_of_ble_eq_true rfl, Nat.le_of_ble_eq_true rfl⟩, hts (.static yX7_isWeekday) (by decide +kernel), trivial⟩ ft_preSn rfl rfl hl.1 rfl (lv_room (Nat.le_of_ble_eq_true rfl)) dX4_takePermit_11 ⟨Nat.le_of_ble_eq_true rfl, Nat.le_of_ble_eq_true rfl⟩)) (fun z hz => ?_)
    subst hz
    refine lv_if_ne (tgt := 20) hx hb dX4_takePermit_14 (by decide) (fun c_14 => ?_) (fun c_14 => ?_)
    · replace hsp := (if_neg c_14).symm.trans hsp
      refine lv_aload_n hx hb dX4_takePermit_20 rfl (lv_at hl 0 rfl) ?_
      refine va_get (D := dC) (ci := 6) (v := .ref (ad 1)) (C := RX4) (T := TX4) (N := 12) hx hb hts (by decide +kernel) hown hK.1 hP 0 (ft_get' (by decide) rfl) rfl 0 (by decide) (hts (.fieldLink RX4 11 "FoodTruckRota$Square" "trucks" "[LFoodTruckRota$Truck;") (by decide +kernel)) (fun _ h9 => h9) rfl dX4_takePermit_21 ?_
      refine lv_iload_n hx hb dX4_takePermit_24 rfl (lv_at hl 1 rfl) ?_
      have h_25 : vp_in x1 6 := by first | assumption | exact isTruck_in (by assumption) | exact isDish_in (by assumption)
      refine va_aldq (C := RX6) hx hb hK.1 hP 1 1 (ft_get' (by decide) rfl) rfl h_25 dX4_takePermit_25 ?_
      refine W.eq (g2 := F0 m 26 ls [.ref (ft_at ad (tn x1) 0)]) rfl ?_
      refine lv_iload_n hx hb dX4_takePermit_26 rfl (lv_at hl 2 rfl) ?_
      refine vp_callSi (va_Run.run (va_runV (As := [.int (x2)]) (rest := []) ⟨hx, hb, hml, hown, hts⟩ (c_X6_isPermitted l dC (ft_at ad (tn x1)) k r (51 + 17 * (tn x1)) x2) (cwV 1 hts gX4_takePermit_X6_isPermitted rfl rfl rfl (by decide +kernel) ⟨Nat.le_of_ble_eq_true rfl, Nat.le_of_ble_eq_true rfl⟩) (ft_preVc hK (ft_S_P hP (ft_tn h_25)) (ci := 8) rfl (ft_get' (by decide) rfl)) rfl rfl hl.1 rfl (lv_room (Nat.le_of_ble_eq_true rfl)) dX4_takePermit_27 ⟨Nat.le_of_ble_eq_true rfl, Nat.le_of_ble_eq_true rfl⟩)) (fun z hz => ?_)
      subst hz
      refine lv_if_ne (tgt := 36) hx hb dX4_takePermit_30 (by decide) (fun c_30 => ?_) (fun c_30 => ?_)
      · replace hsp := (if_neg c_30).symm.trans hsp
        refine lv_aload_n hx hb dX4_takePermit_36 rfl (lv_at hl 0 rfl) ?_
        refine va_get (D := dC) (ci := 6) (v := .ref (ad 1)) (C := RX4) (T := TX4) (N := 12) hx hb hts (by decide +kernel) hown hK.1 hP 0 (ft_get' (by decide) rfl) rfl 0 (by decide) (hts (.fieldLink RX4 11 "FoodTruckRota$Square" "trucks" "[LFoodTruckRota$Truck;") (by decide +kernel)) (fun _ h9 => h9) rfl dX4_takePermit_37 ?_
        refine lv_iload_n hx hb dX4_takePermit_40 rfl (lv_at hl 1 rfl) ?_
        have h_41 : vp_in x1 6 := by first | assumption | exact isTruck_in (by assumption) | exact isDish_in (by assumption)
        refine va_aldq (C := RX6) hx hb hK.1 hP 1 1 (ft_get' (by decide) rfl) rfl h_41 dX4_takePermit_41 ?_
        refine W.eq (g2 := F0 m 42 ls [.ref (ft_at ad (tn x1) 0)]) rfl ?_
        refine lv_dup hx hb dX4_takePermit_42 rfl ?_
        refine va_getN (D := dC) (ci := 8) (v := .int (r (51 + 17 * (tn x1) + 3))) (C := RX6) (T := TX6) (N := 6) hx hb hts (by decide +kernel) hown hK.1 (ft_S_P hP (ft_tn h_41)) 0 (ft_get' (by decide) rfl) rfl 5 (by decide) (ft_nl hK.2 7 rfl) (fun _ h9 => h9) rfl dX4_takePermit_43 ?_
        refine lv_iconst (v := 1) hx hb dX4_takePermit_46 (by decide) ?_
        refine lv_iload_n hx hb dX4_takePermit_47 rfl (lv_at hl 2 rfl) ?_
        refine lv_ishl hx hb dX4_takePermit_48 ?_
        refine lv_iconst (v := (-1)) hx hb dX4_takePermit_49 (by decide) ?_
        refine lv_ixor hx hb dX4_takePermit_50 ?_
        refine lv_iand hx hb dX4_takePermit_51 ?_
        refine va_putN (D := dC) (ci := 8) (v := .int ((r (51 + 17 * (tn x1) + 3)) &&& ((1 <<< (x2 &&& 31)) ^^^ (-1)))) (ty := .int) (C := RX6) (T := TX6) (N := 6) hx hb hts (by decide +kernel) tyX6 tyX6_ok nmX6 hown hK.1 hP hD hS (5 + 3 * (tn x1) + 0) (ft_get' (by have := (ft_tn h_41); omega) (ft_S_T (by decide))) rfl 5 (by decide) (ft_nl hK.2 7 rfl) (fun _ h9 => h9) rfl (by decide +kernel) rfl rfl (Nat.le_of_ble_eq_true rfl) dX4_takePermit_52 (fun H locs hP hD hS => ?_)
        have hP := ft_cast hP (ft_S_upT (i := (tn x1)) (x := 0) (r := r) (by decide) ft_T_p3 (ft_up_out (by omega) (by omega)))
        have hD := ft_castD hD (ft_S_upT (i := (tn x1)) (x := 0) (r := r) (by decide) ft_T_p3 (ft_up_out (by omega) (by omega)))
        have hP : va_P dC vwCl (ft_WS ad k (va_up r (51 + 17 * (tn x1) + 3) ((r (51 + 17 * (tn x1) + 3)) &&& ((1 <<< (x2 &&& 31)) ^^^ (-1))))) H := hP
        have hD : va_D (ft_A 23 ad) (ft_WS ad k (va_up r (51 + 17 * (tn x1) + 3) ((r (51 + 17 * (tn x1) + 3)) &&& ((1 <<< (x2 &&& 31)) ^^^ (-1))))) := hD
        refine lv_aload_n hx hb dX4_takePermit_55 rfl (lv_at hl 0 rfl) ?_
        refine lv_iload_n hx hb dX4_takePermit_56 rfl (lv_at hl 1 rfl) ?_
        refine lv_iload_n hx hb dX4_takePermit_57 rfl (lv_at hl 2 rfl) ?_
        refine vp_callSi (va_Run.run (va_runV (As := [.int (x1), .int (x2)]) (rest := []) ⟨hx, hb, hml, hown, hts⟩ (c_X4_pitchHeldBy l dC ad k (va_up r (51 + 17 * (tn x1) + 3) ((r (51 + 17 * (tn x1) + 3)) &&& ((1 <<< (x2 &&& 31)) ^^^ (-1)))) x1 x2) (cwV 2 hts gX4_takePermit_X4_pitchHeldBy rfl rfl rfl (by decide +kernel) ⟨Nat.le_of_ble_eq_true rfl, Nat.le_of_ble_eq_true rfl⟩) (ft_preVc hK hP (ci := 6) rfl (ft_get' (by decide) rfl)) rfl rfl hl.1 rfl (lv_room (Nat.le_of_ble_eq_true rfl)) dX4_takePermit_58 ⟨Nat.le_of_ble_eq_true rfl, Nat.le_of_ble_eq_true rfl⟩)) (fun z hz => ?_)
        subst hz
        refine lv_istore_n (lv' := [(3, .int ((s_X4_pitchHeldBy (va_up r (51 + 17 * (tn x1) + 3) ((r (51 + 17 * (tn x1) + 3)) &&& ((1 <<< (x2 &&& 31)) ^^^ (-1)))) x1 x2))), (0, .ref (ad 0)), (1, .int (x1)), (2, .int (x2))]) hx hb dX4_takePermit_61 rfl hl (by decide) rfl (fun ls hl => ?_)
        refine lv_iload_n hx hb dX4_takePermit_62 rfl (lv_at hl 0 rfl) ?_
        refine lv_iconst (v := (-1)) hx hb dX4_takePermit_63 (by decide) ?_
        refine lv_icmp_ne (tgt := 69) hx hb dX4_takePermit_64 (by decide) (fun c_64 => ?_) (fun c_64 => ?_)
        · replace hsp := (if_neg c_64).symm.trans hsp
          refine lv_aload_n hx hb dX4_takePermit_69 rfl (lv_at hl 1 rfl) ?_
          refine lv_iload_n hx hb dX4_takePermit_70 rfl (lv_at hl 0 rfl) ?_
          refine lv_iload_n hx hb dX4_takePermit_71 rfl (lv_at hl 3 rfl) ?_
          refine va_callv (va_runV (As := [.int ((s_X4_pitchHeldBy (va_up r (51 + 17 * (tn x1) + 3) ((r (51 + 17 * (tn x1) + 3)) &&& ((1 <<< (x2 &&& 31)) ^^^ (-1)))) x1 x2)), .int (x2)]) (rest := []) ⟨hx, hb, hml, hown, hts⟩ (c_X4_endAssignment l dC ad k (va_up r (51 + 17 * (tn x1) + 3) ((r (51 + 17 * (tn x1) + 3)) &&& ((1 <<< (x2 &&& 31)) ^^^ (-1)))) (s_X4_pitchHeldBy (va_up r (51 + 17 * (tn x1) + 3) ((r (51 + 17 * (tn x1) + 3)) &&& ((1 <<< (x2 &&& 31)) ^^^ (-1)))) x1 x2) x2) (cwV 2 hts gX4_takePermit_X4_endAssignment rfl rfl rfl (by decide +kernel) ⟨Nat.le_of_ble_eq_true rfl, Nat.le_of_ble_eq_true rfl⟩) (ft_preVd hK hP hD (ci := 6) rfl (ft_get' (by decide) rfl)) rfl rfl hl.1 rfl (lv_room (Nat.le_of_ble_eq_true rfl)) dX4_takePermit_72 ⟨Nat.le_of_ble_eq_true rfl, Nat.le_of_ble_eq_true rfl⟩) hS (fun q _ h => h) (fun q h => h) (fun u t H1 locs ht hvm hw hB hz1 hk1 hS => ?_)
          subst hw
          rw [ht] at hB
          have hP : va_P dC vwCl (ft_WS ad k (s_X4_endAssignment (va_up r (51 + 17 * (tn x1) + 3) ((r (51 + 17 * (tn x1) + 3)) &&& ((1 <<< (x2 &&& 31)) ^^^ (-1)))) (s_X4_pitchHeldBy (va_up r (51 + 17 * (tn x1) + 3) ((r (51 + 17 * (tn x1) + 3)) &&& ((1 <<< (x2 &&& 31)) ^^^ (-1)))) x1 x2) x2)) H1 := hB
          have hD : va_D (ft_A 23 ad) (ft_WS ad k (s_X4_endAssignment (va_up r (51 + 17 * (tn x1) + 3) ((r (51 + 17 * (tn x1) + 3)) &&& ((1 <<< (x2 &&& 31)) ^^^ (-1)))) (s_X4_pitchHeldBy (va_up r (51 + 17 * (tn x1) + 3) ((r (51 + 17 * (tn x1) + 3)) &&& ((1 <<< (x2 &&& 31)) ^^^ (-1)))) x1 x2) x2)) := ft_D_va hD _
          generalize H1 = H at hP hS ⊢
          refine lv_iconst (v := 1) hx hb dX4_takePermit_75 (by decide) ?_
          exact W.iret (v := 1) hx hb hr (fun t ht hW => ⟨⟨1, (s_X4_endAssignment (va_up r (51 + 17 * (tn x1) + 3) ((r (51 + 17 * (tn x1) + 3)) &&& ((1 <<< (x2 &&& 31)) ^^^ (-1)))) (s_X4_pitchHeldBy (va_up r (51 + 17 * (tn x1) + 3) ((r (51 + 17 * (tn x1) + 3)) &&& ((1 <<< (x2 &&& 31)) ^^^ (-1)))) x1 x2) x2), rfl, hsp, ft_heap ht hP⟩, hS.F ht⟩) hS.2.2 dX4_takePermit_76
        · replace hsp := (if_pos c_64).symm.trans hsp
          refine lv_iconst (v := 0) hx hb dX4_takePermit_67 (by decide) ?_
          exact W.iret (v := 0) hx hb hr (fun t ht hW => ⟨⟨0, (va_up r (51 + 17 * (tn x1) + 3) ((r (51 + 17 * (tn x1) + 3)) &&& ((1 <<< (x2 &&& 31)) ^^^ (-1)))), rfl, hsp, ft_heap ht hP⟩, hS.F ht⟩) hS.2.2 dX4_takePermit_68
      · replace hsp := (if_pos c_30).symm.trans hsp
        refine lv_bipush (v := (-4)) hx hb dX4_takePermit_33 (by decide) ?_
        exact W.iret (v := (-4)) hx hb hr (fun t ht hW => ⟨⟨(-4), r, rfl, hsp, ft_heap ht hP⟩, hS.F ht⟩) hS.2.2 dX4_takePermit_35
    · replace hsp := (if_pos c_14).symm.trans hsp
      refine lv_bipush (v := (-2)) hx hb dX4_takePermit_17 (by decide) ?_
      exact W.iret (v := (-2)) hx hb hr (fun t ht hW => ⟨⟨(-2), r, rfl, hsp, ft_heap ht hP⟩, hS.F ht⟩) hS.2.2 dX4_takePermit_19
  · replace hsp := (if_pos c_5).symm.trans hsp
    refine lv_iconst (v := (-1)) hx hb dX4_takePermit_8 (by decide) ?_
    exact W.iret (v := (-1)) hx hb hr (fun t ht hW => ⟨⟨(-1), r, rfl, hsp, ft_heap ht hP⟩, hS.F ht⟩) hS.2.2 dX4_takePermit_9

def s_X4_holdPitch (r : Nat → Int32) (x1 : Int32) (x2 : Int32) (x3 : Int32) : Int32 × (Nat → Int32) := if (s_X4_isTruck r x1) = 0 then (((-1), r)) else (if (s_X7_isPitch x2) = 0 then (((-1), r)) else (if (s_X7_isWeekday x3) = 0 then (((-2), r)) else (if (s_X6_isPermitted r (51 + 17 * (tn x1)) x3) = 0 then (((-3), r)) else (if (s_X4_holderOf r x2 x3) = (-1) then (if (s_X4_pitchHeldBy r x1 x3) = (-1) then (((s_X4_countFor (s_X4_setHolder r x2 x3 x1) x1), (s_X4_setHolder r x2 x3 x1))) else (((-4), r))) else (((-4), r))))))
set_option maxHeartbeats 4000000 in
set_option maxRecDepth 100000 in
theorem c_X4_holdPitch (l : Launch) (dC : va_G) (ad : Nat → Nat) (k : Nat → ClassId) (r : Nat → Int32) (x1 : Int32) (x2 : Int32) (x3 : Int32) : Met l yX4_holdPitch wsX4_holdPitch ({ frames := 3, cells := 0, slots := 0, locals := 68 }) (ft_Pd dC k [.ref (ad 0), .int x1, .int x2, .int x3] (ft_WS ad k r)) (va_Qi (fun (z : Int32) (u : Nat → Int32) => (z, u) = s_X4_holdPitch r x1 x2 x3) (fun (u : Nat → Int32) (t : State) => va_P dC vwCl (ft_WS ad k u) t.heap) (ft_A 23 ad)) 0 0 (ft_A 23 ad) := by
  refine Met.ofW (cc := cX4_holdPitch) (maxL := 4) (ret := (some .int)) (by decide) rfl ?_
  intro p e s m args below meth c s₁ B hml hv
  obtain ⟨hargs, hP, hK, hD0⟩ := hv
  subst hargs
  have hx := B.exec
  have hb := B.bytes
  have hr := B.returns
  have hts := atoms_spec (ws := wsX4_holdPitch) B.pre
  have hown : s.vm.findClass RX4 = some m.cls := findClass_of_methodNamed B.named
  have hlocks := B.notSynchronized
  have hD := ft_D_self hD0
  have hS : va_S (ft_A 23 ad) s.heap s.heap [] := va_S.rf
  have hl := lv_entry ([.ref (ad 0), .int x1, .int x2, .int x3]) (n := 4) (Nat.le_of_ble_eq_true rfl)
  rw [lg_entry_eq]
  generalize (lg_sl ([.ref (ad 0), .int x1, .int x2, .int x3]) ++ List.replicate (4 - (lg_sl ([.ref (ad 0), .int x1, .int x2, .int x3])).length) Slot.unset).toArray = ls at hl ⊢
  have hl : lv_has ls 4 [(0, .ref (ad 0)), (1, .int (x1)), (2, .int (x2)), (3, .int (x3))] := hl
  have hsp := (s_X4_holdPitch.eq_1 r x1 x2 x3).symm
  refine lv_aload_n hx hb dX4_holdPitch_0 rfl (lv_at hl 0 rfl) ?_
  refine lv_iload_n hx hb dX4_holdPitch_1 rfl (lv_at hl 1 rfl) ?_
  refine vp_callSi (va_Run.run (va_runV (As := [.int (x1)]) (rest := []) ⟨hx, hb, hml, hown, hts⟩ (c_X4_isTruck l dC ad k r x1) (cwV 1 hts gX4_holdPitch_X4_isTruck rfl rfl rfl (by decide +kernel) ⟨Nat.le_of_ble_eq_true rfl, Nat.le_of_ble_eq_true rfl⟩) (ft_preVc hK hP (ci := 6) rfl (ft_get' (by decide) rfl)) rfl rfl hl.1 rfl (lv_room (Nat.le_of_ble_eq_true rfl)) dX4_holdPitch_2 ⟨Nat.le_of_ble_eq_true rfl, Nat.le_of_ble_eq_true rfl⟩)) (fun z hz => ?_)
  subst hz
  refine lv_if_eq (tgt := 15) hx hb dX4_holdPitch_5 (by decide) (fun c_5 => ?_) (fun c_5 => ?_)
  · replace hsp := (if_pos c_5).symm.trans hsp
    refine lv_iconst (v := (-1)) hx hb dX4_holdPitch_15 (by decide) ?_
    exact W.iret (v := (-1)) hx hb hr (fun t ht hW => ⟨⟨(-1), r, rfl, hsp, ft_heap ht hP⟩, hS.F ht⟩) hS.2.2 dX4_holdPitch_16
  · replace hsp := (if_neg c_5).symm.trans hsp
    refine lv_iload_n hx hb dX4_holdPitch_8 rfl (lv_at hl 2 rfl) ?_
    refine vp_callSi (va_Run.run (va_runSN (As := [.int (x2)]) (rest := []) ⟨hx, hb, hml, hown, hts⟩ (c_X7_isPitch l x2) ⟨va_cnB 1 hts ggX4_holdPitch_X7_isPitch rfl rfl rfl (ft_nm hK.2 5 rfl) (hts (.initialized RX7) (by decide +kernel)) (by decide +kernel) ⟨Nat.le_of_ble_eq_true rfl, Nat.le_of_ble_eq_true rfl⟩, hts (.static yX7_isPitch) (by decide +kernel), trivial⟩ ft_preSn rfl rfl hl.1 rfl (lv_room (Nat.le_of_ble_eq_true rfl)) dX4_holdPitch_9 ⟨Nat.le_of_ble_eq_true rfl, Nat.le_of_ble_eq_true rfl⟩)) (fun z hz => ?_)
    subst hz
    refine lv_if_ne (tgt := 17) hx hb dX4_holdPitch_12 (by decide) (fun c_12 => ?_) (fun c_12 => ?_)
    · replace hsp := (if_neg c_12).symm.trans hsp
      refine lv_iload_n hx hb dX4_holdPitch_17 rfl (lv_at hl 3 rfl) ?_
      refine vp_callSi (va_Run.run (va_runSN (As := [.int (x3)]) (rest := []) ⟨hx, hb, hml, hown, hts⟩ (c_X7_isWeekday l x3) ⟨va_cnB 1 hts ggX4_holdPitch_X7_isWeekday rfl rfl rfl (ft_nm hK.2 3 rfl) (hts (.initialized RX7) (by decide +kernel)) (by decide +kernel) ⟨Nat.le_of_ble_eq_true rfl, Nat.le_of_ble_eq_true rfl⟩, hts (.static yX7_isWeekday) (by decide +kernel), trivial⟩ ft_preSn rfl rfl hl.1 rfl (lv_room (Nat.le_of_ble_eq_true rfl)) dX4_holdPitch_18 ⟨Nat.le_of_ble_eq_true rfl, Nat.le_of_ble_eq_true rfl⟩)) (fun z hz => ?_)
      subst hz
      refine lv_if_ne (tgt := 27) hx hb dX4_holdPitch_21 (by decide) (fun c_21 => ?_) (fun c_21 => ?_)
      · replace hsp := (if_neg c_21).symm.trans hsp
        refine lv_aload_n hx hb dX4_holdPitch_27 rfl (lv_at hl 0 rfl) ?_
        refine va_get (D := dC) (ci := 6) (v := .ref (ad 1)) (C := RX4) (T := TX4) (N := 12) hx hb hts (by decide +kernel) hown hK.1 hP 0 (ft_get' (by decide) rfl) rfl 0 (by decide) (hts (.fieldLink RX4 11 "FoodTruckRota$Square" "trucks" "[LFoodTruckRota$Truck;") (by decide +kernel)) (fun _ h9 => h9) rfl dX4_holdPitch_28 ?_
        refine lv_iload_n hx hb dX4_holdPitch_31 rfl (lv_at hl 1 rfl) ?_
        have h_32 : vp_in x1 6 := by first | assumption | exact isTruck_in (by assumption) | exact isDish_in (by assumption)
        refine va_aldq (C := RX6) hx hb hK.1 hP 1 1 (ft_get' (by decide) rfl) rfl h_32 dX4_holdPitch_32 ?_
        refine W.eq (g2 := F0 m 33 ls [.ref (ft_at ad (tn x1) 0)]) rfl ?_
        refine lv_iload_n hx hb dX4_holdPitch_33 rfl (lv_at hl 3 rfl) ?_
        refine vp_callSi (va_Run.run (va_runV (As := [.int (x3)]) (rest := []) ⟨hx, hb, hml, hown, hts⟩ (c_X6_isPermitted l dC (ft_at ad (tn x1)) k r (51 + 17 * (tn x1)) x3) (cwV 1 hts gX4_holdPitch_X6_isPermitted rfl rfl rfl (by decide +kernel) ⟨Nat.le_of_ble_eq_true rfl, Nat.le_of_ble_eq_true rfl⟩) (ft_preVc hK (ft_S_P hP (ft_tn h_32)) (ci := 8) rfl (ft_get' (by decide) rfl)) rfl rfl hl.1 rfl (lv_room (Nat.le_of_ble_eq_true rfl)) dX4_holdPitch_34 ⟨Nat.le_of_ble_eq_true rfl, Nat.le_of_ble_eq_true rfl⟩)) (fun z hz => ?_)
        subst hz
        refine lv_if_ne (tgt := 43) hx hb dX4_holdPitch_37 (by decide) (fun c_37 => ?_) (fun c_37 => ?_)
        · replace hsp := (if_neg c_37).symm.trans hsp
          refine lv_aload_n hx hb dX4_holdPitch_43 rfl (lv_at hl 0 rfl) ?_
          refine lv_iload_n hx hb dX4_holdPitch_44 rfl (lv_at hl 2 rfl) ?_
          refine lv_iload_n hx hb dX4_holdPitch_45 rfl (lv_at hl 3 rfl) ?_
          refine vp_callSi (va_Run.run (va_runV (As := [.int (x2), .int (x3)]) (rest := []) ⟨hx, hb, hml, hown, hts⟩ (c_X4_holderOf l dC ad k r x2 x3) (cwV 2 hts gX4_holdPitch_X4_holderOf rfl rfl rfl (by decide +kernel) ⟨Nat.le_of_ble_eq_true rfl, Nat.le_of_ble_eq_true rfl⟩) (ft_preVc hK hP (ci := 6) rfl (ft_get' (by decide) rfl)) rfl rfl hl.1 rfl (lv_room (Nat.le_of_ble_eq_true rfl)) dX4_holdPitch_46 ⟨Nat.le_of_ble_eq_true rfl, Nat.le_of_ble_eq_true rfl⟩)) (fun z hz => ?_)
          subst hz
          refine lv_iconst (v := (-1)) hx hb dX4_holdPitch_49 (by decide) ?_
          refine lv_icmp_ne (tgt := 63) hx hb dX4_holdPitch_50 (by decide) (fun c_50 => ?_) (fun c_50 => ?_)
          · replace hsp := (if_neg c_50).symm.trans hsp
            refine lv_bipush (v := (-4)) hx hb dX4_holdPitch_63 (by decide) ?_
            exact W.iret (v := (-4)) hx hb hr (fun t ht hW => ⟨⟨(-4), r, rfl, hsp, ft_heap ht hP⟩, hS.F ht⟩) hS.2.2 dX4_holdPitch_65
          · replace hsp := (if_pos c_50).symm.trans hsp
            refine lv_aload_n hx hb dX4_holdPitch_53 rfl (lv_at hl 0 rfl) ?_
            refine lv_iload_n hx hb dX4_holdPitch_54 rfl (lv_at hl 1 rfl) ?_
            refine lv_iload_n hx hb dX4_holdPitch_55 rfl (lv_at hl 3 rfl) ?_
            refine vp_callSi (va_Run.run (va_runV (As := [.int (x1), .int (x3)]) (rest := []) ⟨hx, hb, hml, hown, hts⟩ (c_X4_pitchHeldBy l dC ad k r x1 x3) (cwV 2 hts gX4_holdPitch_X4_pitchHeldBy rfl rfl rfl (by decide +kernel) ⟨Nat.le_of_ble_eq_true rfl, Nat.le_of_ble_eq_true rfl⟩) (ft_preVc hK hP (ci := 6) rfl (ft_get' (by decide) rfl)) rfl rfl hl.1 rfl (lv_room (Nat.le_of_ble_eq_true rfl)) dX4_holdPitch_56 ⟨Nat.le_of_ble_eq_true rfl, Nat.le_of_ble_eq_true rfl⟩)) (fun z hz => ?_)
            subst hz
            refine lv_iconst (v := (-1)) hx hb dX4_holdPitch_59 (by decide) ?_
            refine lv_icmp_eq (tgt := 66) hx hb dX4_holdPitch_60 (by decide) (fun c_60 => ?_) (fun c_60 => ?_)
            · replace hsp := (if_pos c_60).symm.trans hsp
              refine lv_aload_n hx hb dX4_holdPitch_66 rfl (lv_at hl 0 rfl) ?_
              refine lv_iload_n hx hb dX4_holdPitch_67 rfl (lv_at hl 2 rfl) ?_
              refine lv_iload_n hx hb dX4_holdPitch_68 rfl (lv_at hl 3 rfl) ?_
              refine lv_iload_n hx hb dX4_holdPitch_69 rfl (lv_at hl 1 rfl) ?_
              refine va_callv (va_runV (As := [.int (x2), .int (x3), .int (x1)]) (rest := []) ⟨hx, hb, hml, hown, hts⟩ (c_X4_setHolder l dC ad k r x2 x3 x1) (cwV 3 hts gX4_holdPitch_X4_setHolder rfl rfl rfl (by decide +kernel) ⟨Nat.le_of_ble_eq_true rfl, Nat.le_of_ble_eq_true rfl⟩) (ft_preVd hK hP hD (ci := 6) rfl (ft_get' (by decide) rfl)) rfl rfl hl.1 rfl (lv_room (Nat.le_of_ble_eq_true rfl)) dX4_holdPitch_70 ⟨Nat.le_of_ble_eq_true rfl, Nat.le_of_ble_eq_true rfl⟩) hS (fun q _ h => h) (fun q h => h) (fun u t H1 locs ht hvm hw hB hz1 hk1 hS => ?_)
              subst hw
              rw [ht] at hB
              have hP : va_P dC vwCl (ft_WS ad k (s_X4_setHolder r x2 x3 x1)) H1 := hB
              have hD : va_D (ft_A 23 ad) (ft_WS ad k (s_X4_setHolder r x2 x3 x1)) := ft_D_va hD _
              generalize H1 = H at hP hS ⊢
              refine lv_aload_n hx hb dX4_holdPitch_73 rfl (lv_at hl 0 rfl) ?_
              refine lv_iload_n hx hb dX4_holdPitch_74 rfl (lv_at hl 1 rfl) ?_
              refine vp_callSi (va_Run.run (va_runV (As := [.int (x1)]) (rest := []) ⟨hx, hb, hml, hown, hts⟩ (c_X4_countFor l dC ad k (s_X4_setHolder r x2 x3 x1) x1) (cwV 1 hts gX4_holdPitch_X4_countFor rfl rfl rfl (by decide +kernel) ⟨Nat.le_of_ble_eq_true rfl, Nat.le_of_ble_eq_true rfl⟩) (ft_preVc hK hP (ci := 6) rfl (ft_get' (by decide) rfl)) rfl rfl hl.1 rfl (lv_room (Nat.le_of_ble_eq_true rfl)) dX4_holdPitch_75 ⟨Nat.le_of_ble_eq_true rfl, Nat.le_of_ble_eq_true rfl⟩)) (fun z hz => ?_)
              subst hz
              exact W.iret (v := (s_X4_countFor (s_X4_setHolder r x2 x3 x1) x1)) hx hb hr (fun t ht hW => ⟨⟨(s_X4_countFor (s_X4_setHolder r x2 x3 x1) x1), (s_X4_setHolder r x2 x3 x1), rfl, hsp, ft_heap ht hP⟩, hS.F ht⟩) hS.2.2 dX4_holdPitch_78
            · replace hsp := (if_neg c_60).symm.trans hsp
              refine lv_bipush (v := (-4)) hx hb dX4_holdPitch_63 (by decide) ?_
              exact W.iret (v := (-4)) hx hb hr (fun t ht hW => ⟨⟨(-4), r, rfl, hsp, ft_heap ht hP⟩, hS.F ht⟩) hS.2.2 dX4_holdPitch_65
        · replace hsp := (if_pos c_37).symm.trans hsp
          refine lv_bipush (v := (-3)) hx hb dX4_holdPitch_40 (by decide) ?_
          exact W.iret (v := (-3)) hx hb hr (fun t ht hW => ⟨⟨(-3), r, rfl, hsp, ft_heap ht hP⟩, hS.F ht⟩) hS.2.2 dX4_holdPitch_42
      · replace hsp := (if_pos c_21).symm.trans hsp
        refine lv_bipush (v := (-2)) hx hb dX4_holdPitch_24 (by decide) ?_
        exact W.iret (v := (-2)) hx hb hr (fun t ht hW => ⟨⟨(-2), r, rfl, hsp, ft_heap ht hP⟩, hS.F ht⟩) hS.2.2 dX4_holdPitch_26
    · replace hsp := (if_pos c_12).symm.trans hsp
      refine lv_iconst (v := (-1)) hx hb dX4_holdPitch_15 (by decide) ?_
      exact W.iret (v := (-1)) hx hb hr (fun t ht hW => ⟨⟨(-1), r, rfl, hsp, ft_heap ht hP⟩, hS.F ht⟩) hS.2.2 dX4_holdPitch_16

def s_X4_leavePitch (r : Nat → Int32) (x1 : Int32) (x2 : Int32) : Int32 × (Nat → Int32) := if (s_X7_isPitch x1) = 0 then (((-1), r)) else (if (s_X7_isWeekday x2) = 0 then (((-2), r)) else (if (s_X4_holderOf r x1 x2) = (-1) then (((-5), r)) else (((s_X4_holderOf r x1 x2), (s_X4_endAssignment r x1 x2)))))
set_option maxHeartbeats 4000000 in
set_option maxRecDepth 100000 in
theorem c_X4_leavePitch (l : Launch) (dC : va_G) (ad : Nat → Nat) (k : Nat → ClassId) (r : Nat → Int32) (x1 : Int32) (x2 : Int32) : Met l yX4_leavePitch wsX4_leavePitch ({ frames := 3, cells := 0, slots := 0, locals := 66 }) (ft_Pd dC k [.ref (ad 0), .int x1, .int x2] (ft_WS ad k r)) (va_Qi (fun (z : Int32) (u : Nat → Int32) => (z, u) = s_X4_leavePitch r x1 x2) (fun (u : Nat → Int32) (t : State) => va_P dC vwCl (ft_WS ad k u) t.heap) (ft_A 23 ad)) 0 0 (ft_A 23 ad) := by
  refine Met.ofW (cc := cX4_leavePitch) (maxL := 4) (ret := (some .int)) (by decide) rfl ?_
  intro p e s m args below meth c s₁ B hml hv
  obtain ⟨hargs, hP, hK, hD0⟩ := hv
  subst hargs
  have hx := B.exec
  have hb := B.bytes
  have hr := B.returns
  have hts := atoms_spec (ws := wsX4_leavePitch) B.pre
  have hown : s.vm.findClass RX4 = some m.cls := findClass_of_methodNamed B.named
  have hlocks := B.notSynchronized
  have hD := ft_D_self hD0
  have hS : va_S (ft_A 23 ad) s.heap s.heap [] := va_S.rf
  have hl := lv_entry ([.ref (ad 0), .int x1, .int x2]) (n := 4) (Nat.le_of_ble_eq_true rfl)
  rw [lg_entry_eq]
  generalize (lg_sl ([.ref (ad 0), .int x1, .int x2]) ++ List.replicate (4 - (lg_sl ([.ref (ad 0), .int x1, .int x2])).length) Slot.unset).toArray = ls at hl ⊢
  have hl : lv_has ls 4 [(0, .ref (ad 0)), (1, .int (x1)), (2, .int (x2))] := hl
  have hsp := (s_X4_leavePitch.eq_1 r x1 x2).symm
  refine lv_iload_n hx hb dX4_leavePitch_0 rfl (lv_at hl 1 rfl) ?_
  refine vp_callSi (va_Run.run (va_runSN (As := [.int (x1)]) (rest := []) ⟨hx, hb, hml, hown, hts⟩ (c_X7_isPitch l x1) ⟨va_cnB 1 hts ggX4_leavePitch_X7_isPitch rfl rfl rfl (ft_nm hK.2 5 rfl) (hts (.initialized RX7) (by decide +kernel)) (by decide +kernel) ⟨Nat.le_of_ble_eq_true rfl, Nat.le_of_ble_eq_true rfl⟩, hts (.static yX7_isPitch) (by decide +kernel), trivial⟩ ft_preSn rfl rfl hl.1 rfl (lv_room (Nat.le_of_ble_eq_true rfl)) dX4_leavePitch_1 ⟨Nat.le_of_ble_eq_true rfl, Nat.le_of_ble_eq_true rfl⟩)) (fun z hz => ?_)
  subst hz
  refine lv_if_ne (tgt := 9) hx hb dX4_leavePitch_4 (by decide) (fun c_4 => ?_) (fun c_4 => ?_)
  · replace hsp := (if_neg c_4).symm.trans hsp
    refine lv_iload_n hx hb dX4_leavePitch_9 rfl (lv_at hl 2 rfl) ?_
    refine vp_callSi (va_Run.run (va_runSN (As := [.int (x2)]) (rest := []) ⟨hx, hb, hml, hown, hts⟩ (c_X7_isWeekday l x2) ⟨va_cnB 1 hts ggX4_leavePitch_X7_isWeekday rfl rfl rfl (ft_nm hK.2 3 rfl) (hts (.initialized RX7) (by decide +kernel)) (by decide +kernel) ⟨Nat.le_of_ble_eq_true rfl, Nat.le_of_ble_eq_true rfl⟩, hts (.static yX7_isWeekday) (by decide +kernel), trivial⟩ ft_preSn rfl rfl hl.1 rfl (lv_room (Nat.le_of_ble_eq_true rfl)) dX4_leavePitch_10 ⟨Nat.le_of_ble_eq_true rfl, Nat.le_of_ble_eq_true rfl⟩)) (fun z hz => ?_)
    subst hz
    refine lv_if_ne (tgt := 19) hx hb dX4_leavePitch_13 (by decide) (fun c_13 => ?_) (fun c_13 => ?_)
    · replace hsp := (if_neg c_13).symm.trans hsp
      refine lv_aload_n hx hb dX4_leavePitch_19 rfl (lv_at hl 0 rfl) ?_
      refine lv_iload_n hx hb dX4_leavePitch_20 rfl (lv_at hl 1 rfl) ?_
      refine lv_iload_n hx hb dX4_leavePitch_21 rfl (lv_at hl 2 rfl) ?_
      refine vp_callSi (va_Run.run (va_runV (As := [.int (x1), .int (x2)]) (rest := []) ⟨hx, hb, hml, hown, hts⟩ (c_X4_holderOf l dC ad k r x1 x2) (cwV 2 hts gX4_leavePitch_X4_holderOf rfl rfl rfl (by decide +kernel) ⟨Nat.le_of_ble_eq_true rfl, Nat.le_of_ble_eq_true rfl⟩) (ft_preVc hK hP (ci := 6) rfl (ft_get' (by decide) rfl)) rfl rfl hl.1 rfl (lv_room (Nat.le_of_ble_eq_true rfl)) dX4_leavePitch_22 ⟨Nat.le_of_ble_eq_true rfl, Nat.le_of_ble_eq_true rfl⟩)) (fun z hz => ?_)
      subst hz
      refine lv_istore_n (lv' := [(3, .int ((s_X4_holderOf r x1 x2))), (0, .ref (ad 0)), (1, .int (x1)), (2, .int (x2))]) hx hb dX4_leavePitch_25 rfl hl (by decide) rfl (fun ls hl => ?_)
      refine lv_iload_n hx hb dX4_leavePitch_26 rfl (lv_at hl 0 rfl) ?_
      refine lv_iconst (v := (-1)) hx hb dX4_leavePitch_27 (by decide) ?_
      refine lv_icmp_ne (tgt := 34) hx hb dX4_leavePitch_28 (by decide) (fun c_28 => ?_) (fun c_28 => ?_)
      · replace hsp := (if_neg c_28).symm.trans hsp
        refine lv_aload_n hx hb dX4_leavePitch_34 rfl (lv_at hl 1 rfl) ?_
        refine lv_iload_n hx hb dX4_leavePitch_35 rfl (lv_at hl 2 rfl) ?_
        refine lv_iload_n hx hb dX4_leavePitch_36 rfl (lv_at hl 3 rfl) ?_
        refine va_callv (va_runV (As := [.int (x1), .int (x2)]) (rest := []) ⟨hx, hb, hml, hown, hts⟩ (c_X4_endAssignment l dC ad k r x1 x2) (cwV 2 hts gX4_leavePitch_X4_endAssignment rfl rfl rfl (by decide +kernel) ⟨Nat.le_of_ble_eq_true rfl, Nat.le_of_ble_eq_true rfl⟩) (ft_preVd hK hP hD (ci := 6) rfl (ft_get' (by decide) rfl)) rfl rfl hl.1 rfl (lv_room (Nat.le_of_ble_eq_true rfl)) dX4_leavePitch_37 ⟨Nat.le_of_ble_eq_true rfl, Nat.le_of_ble_eq_true rfl⟩) hS (fun q _ h => h) (fun q h => h) (fun u t H1 locs ht hvm hw hB hz1 hk1 hS => ?_)
        subst hw
        rw [ht] at hB
        have hP : va_P dC vwCl (ft_WS ad k (s_X4_endAssignment r x1 x2)) H1 := hB
        have hD : va_D (ft_A 23 ad) (ft_WS ad k (s_X4_endAssignment r x1 x2)) := ft_D_va hD _
        generalize H1 = H at hP hS ⊢
        refine lv_iload_n hx hb dX4_leavePitch_40 rfl (lv_at hl 0 rfl) ?_
        exact W.iret (v := (s_X4_holderOf r x1 x2)) hx hb hr (fun t ht hW => ⟨⟨(s_X4_holderOf r x1 x2), (s_X4_endAssignment r x1 x2), rfl, hsp, ft_heap ht hP⟩, hS.F ht⟩) hS.2.2 dX4_leavePitch_41
      · replace hsp := (if_pos c_28).symm.trans hsp
        refine lv_bipush (v := (-5)) hx hb dX4_leavePitch_31 (by decide) ?_
        exact W.iret (v := (-5)) hx hb hr (fun t ht hW => ⟨⟨(-5), r, rfl, hsp, ft_heap ht hP⟩, hS.F ht⟩) hS.2.2 dX4_leavePitch_33
    · replace hsp := (if_pos c_13).symm.trans hsp
      refine lv_bipush (v := (-2)) hx hb dX4_leavePitch_16 (by decide) ?_
      exact W.iret (v := (-2)) hx hb hr (fun t ht hW => ⟨⟨(-2), r, rfl, hsp, ft_heap ht hP⟩, hS.F ht⟩) hS.2.2 dX4_leavePitch_18
  · replace hsp := (if_pos c_4).symm.trans hsp
    refine lv_iconst (v := (-1)) hx hb dX4_leavePitch_7 (by decide) ?_
    exact W.iret (v := (-1)) hx hb hr (fun t ht hW => ⟨⟨(-1), r, rfl, hsp, ft_heap ht hP⟩, hS.F ht⟩) hS.2.2 dX4_leavePitch_8

def s_X4_endDay_L2 (r : Nat → Int32)  (K : Int32 → (Nat → Int32) → (Nat → Int32)) : Nat → Int32 → (Nat → Int32) → (Nat → Int32)
  | 0, y1_2, r_2 => K y1_2 r_2
  | n + 1, y1_2, r_2 => if 6 ≤ y1_2 then (K y1_2 r_2) else (s_X4_endDay_L2 r K n (y1_2 + 1) (va_up ((s_X6_sendAllAway r_2 (51 + 17 * (tn y1_2))).2) 6 ((r_2 6) + ((s_X6_sendAllAway r_2 (51 + 17 * (tn y1_2))).1))))
def s_X4_endDay (r : Nat → Int32)  : (Nat → Int32) := s_X4_endDay_L2 r (fun y1_2 r_2 => va_up (va_up r_2 1 ((r_2 1) + 1)) 2 0) (tn 6 + 1) 0 r
set_option maxHeartbeats 4000000 in
set_option maxRecDepth 100000 in
theorem c_X4_endDay (l : Launch) (dC : va_G) (ad : Nat → Nat) (k : Nat → ClassId) (r : Nat → Int32)  : Met l yX4_endDay wsX4_endDay ({ frames := 1, cells := 0, slots := 0, locals := 21 }) (ft_Pd dC k [.ref (ad 0)] (ft_WS ad k r)) (va_Qv (fun u : Nat → Int32 => u = s_X4_endDay r) (fun (u : Nat → Int32) (t : State) => va_P dC vwCl (ft_WS ad k u) t.heap) (ft_A 23 ad)) 0 0 (ft_A 23 ad) := by
  refine Met.ofW (cc := cX4_endDay) (maxL := 2) (ret := none) (by decide) rfl ?_
  intro p e s m args below meth c s₁ B hml hv
  obtain ⟨hargs, hP, hK, hD0⟩ := hv
  subst hargs
  have hx := B.exec
  have hb := B.bytes
  have hr := B.returns
  have hts := atoms_spec (ws := wsX4_endDay) B.pre
  have hown : s.vm.findClass RX4 = some m.cls := findClass_of_methodNamed B.named
  have hlocks := B.notSynchronized
  have hD := ft_D_self hD0
  have hS : va_S (ft_A 23 ad) s.heap s.heap [] := va_S.rf
  have hl := lv_entry ([.ref (ad 0)]) (n := 2) (Nat.le_of_ble_eq_true rfl)
  rw [lg_entry_eq]
  generalize (lg_sl ([.ref (ad 0)]) ++ List.replicate (2 - (lg_sl ([.ref (ad 0)])).length) Slot.unset).toArray = ls at hl ⊢
  have hl : lv_has ls 2 [(0, .ref (ad 0))] := hl
  have hsp := (s_X4_endDay.eq_1 r ).symm
  refine lv_iconst (v := 0) hx hb dX4_endDay_0 (by decide) ?_
  refine lv_istore_n (lv' := [(1, .int (0)), (0, .ref (ad 0))]) hx hb dX4_endDay_1 rfl hl (by decide) rfl (fun ls hl => ?_)
  have loop_2 : ∀ (K : Int32 → (Nat → Int32) → (Nat → Int32)) (hKx : ∀ (y1_2 : Int32) (i_2 : Nat) (hi_2 : y1_2 = nI i_2) (hm_2 : i_2 ≤ tn 6) (r_2 : Nat → Int32) (H : Heap) (locs : List Loc) (hP : va_P dC vwCl (ft_WS ad k r_2) H) (hD : va_D (ft_A 23 ad) (ft_WS ad k r_2)) (hS : va_S (ft_A 23 ad) s.heap H locs) (ls : Array Slot) (hl : lv_has ls 2 [(1, .int (y1_2)), (0, .ref (ad 0))]) (hsp : K y1_2 r_2 = s_X4_endDay r), W p l e (headSpec wsX4_endDay ({ frames := 1, cells := 0, slots := 0, locals := 21 })).room s m ([.ref (ad 0)] : List Value).toArray below meth c H locs 0 0 (MQ below (va_Qv (fun u : Nat → Int32 => u = s_X4_endDay r) (fun (u : Nat → Int32) (t : State) => va_P dC vwCl (ft_WS ad k u) t.heap) (ft_A 23 ad)) ([.ref (ad 0)] : List Value).toArray s 0 0 (ft_A 23 ad)) (F0 m 32 ls [])) (n_2 : Nat), ∀ (y1_2 : Int32) (i_2 : Nat) (hi_2 : y1_2 = nI i_2) (hm_2 : i_2 ≤ tn 6) (hn_2 : tn 6 < n_2 + i_2) (r_2 : Nat → Int32) (H : Heap) (locs : List Loc) (hP : va_P dC vwCl (ft_WS ad k r_2) H) (hD : va_D (ft_A 23 ad) (ft_WS ad k r_2)) (hS : va_S (ft_A 23 ad) s.heap H locs) (ls : Array Slot) (hl : lv_has ls 2 [(1, .int (y1_2)), (0, .ref (ad 0))]) (hsp : s_X4_endDay_L2 r K n_2 y1_2 r_2 = s_X4_endDay r), W p l e (headSpec wsX4_endDay ({ frames := 1, cells := 0, slots := 0, locals := 21 })).room s m ([.ref (ad 0)] : List Value).toArray below meth c H locs 0 0 (MQ below (va_Qv (fun u : Nat → Int32 => u = s_X4_endDay r) (fun (u : Nat → Int32) (t : State) => va_P dC vwCl (ft_WS ad k u) t.heap) (ft_A 23 ad)) ([.ref (ad 0)] : List Value).toArray s 0 0 (ft_A 23 ad)) (F0 m 2 ls []) := by
    intro K hKx n_2
    induction n_2 with
    | zero => intro y1_2 i_2 hi_2 hm_2 hn_2; exact absurd hn_2 (by omega)
    | succ n ih_2 =>
      intro y1_2 i_2 hi_2 hm_2 hn_2 r_2 H locs hP hD hS ls hl hsp
      rw [s_X4_endDay_L2] at hsp
      refine lv_iload_n hx hb dX4_endDay_2 rfl (lv_at hl 0 rfl) ?_
      refine lv_bipush (v := 6) hx hb dX4_endDay_3 (by decide) ?_
      refine lv_icmp_ge (tgt := 32) hx hb dX4_endDay_5 (by decide) (fun c_5 => ?_) (fun c_5 => ?_)
      · replace hsp := (if_pos c_5).symm.trans hsp
        exact hKx y1_2 i_2 hi_2 hm_2 r_2 _ _ hP hD hS ls (lv_sub hl [0, 1] rfl) hsp
      · replace hsp := (if_neg c_5).symm.trans hsp
        have hlt_2 := ft_step hi_2 hm_2 c_5
        refine lv_aload_n hx hb dX4_endDay_8 rfl (lv_at hl 1 rfl) ?_
        refine lv_dup hx hb dX4_endDay_9 rfl ?_
        refine va_get (D := dC) (ci := 6) (v := .int (r_2 6)) (C := RX4) (T := TX4) (N := 12) hx hb hts (by decide +kernel) hown hK.1 hP 0 (ft_get' (by decide) rfl) rfl 10 (by decide) (hts (.fieldLink RX4 63 "FoodTruckRota$Square" "disappointed" "I") (by decide +kernel)) (fun _ h9 => h9) rfl dX4_endDay_10 ?_
        refine lv_aload_n hx hb dX4_endDay_13 rfl (lv_at hl 1 rfl) ?_
        refine va_get (D := dC) (ci := 6) (v := .ref (ad 1)) (C := RX4) (T := TX4) (N := 12) hx hb hts (by decide +kernel) hown hK.1 hP 0 (ft_get' (by decide) rfl) rfl 0 (by decide) (hts (.fieldLink RX4 11 "FoodTruckRota$Square" "trucks" "[LFoodTruckRota$Truck;") (by decide +kernel)) (fun _ h9 => h9) rfl dX4_endDay_14 ?_
        refine lv_iload_n hx hb dX4_endDay_17 rfl (lv_at hl 0 rfl) ?_
        have h_18 : vp_in y1_2 6 := by exact ft_vin hi_2 hlt_2
        refine va_aldq (C := RX6) hx hb hK.1 hP 1 1 (ft_get' (by decide) rfl) rfl h_18 dX4_endDay_18 ?_
        refine W.eq (g2 := F0 m 19 ls [.ref (ft_at ad (tn y1_2) 0), .int (r_2 6), .ref (ad 0)]) rfl ?_
        refine va_calli (va_runV (As := []) (rest := [.int (r_2 6), .ref (ad 0)]) ⟨hx, hb, hml, hown, hts⟩ (c_X6_sendAllAway l dC (ft_at ad (tn y1_2)) k r_2 (51 + 17 * (tn y1_2))) (cwV 0 hts gX4_endDay_X6_sendAllAway rfl rfl rfl (by decide +kernel) ⟨Nat.le_of_ble_eq_true rfl, Nat.le_of_ble_eq_true rfl⟩) (ft_preVd hK (ft_S_P hP (ft_tn h_18)) (ft_S_D hD (ft_tn h_18)) (ci := 8) rfl (ft_get' (by decide) rfl)) rfl rfl hl.1 rfl (lv_room (Nat.le_of_ble_eq_true rfl)) dX4_endDay_19 ⟨Nat.le_of_ble_eq_true rfl, Nat.le_of_ble_eq_true rfl⟩) hS (fun q _ h => ft_S_A hD (ft_tn h_18) q h) (fun q h => ft_S_A hD (ft_tn h_18) q h) (fun z u t H1 locs ht hvm hw hB hz1 hk1 hS => ?_)
        obtain ⟨rfl, rfl⟩ : z = (s_X6_sendAllAway r_2 (51 + 17 * (tn y1_2))).1 ∧ u = (s_X6_sendAllAway r_2 (51 + 17 * (tn y1_2))).2 := ⟨congrArg Prod.fst hw, congrArg Prod.snd hw⟩
        rw [ht] at hB
        have hP : va_P dC vwCl (ft_WS ad k ((s_X6_sendAllAway r_2 (51 + 17 * (tn y1_2))).2)) H1 := ft_S_join hP hD (ft_tn h_18) hk1 hB (o_X6_sendAllAway _ _)
        have hD : va_D (ft_A 23 ad) (ft_WS ad k ((s_X6_sendAllAway r_2 (51 + 17 * (tn y1_2))).2)) := ft_D_va hD _
        generalize H1 = H at hP hS ⊢
        refine lv_iadd hx hb dX4_endDay_22 ?_
        refine va_put (D := dC) (ci := 6) (v := .int ((r_2 6) + ((s_X6_sendAllAway r_2 (51 + 17 * (tn y1_2))).1))) (ty := .int) (C := RX4) (T := TX4) (N := 12) hx hb hts (by decide +kernel) tyX4 tyX4_ok nmX4 hown hK.1 hP hD hS 0 (ft_get' (by decide) rfl) rfl 10 (by decide) (hts (.fieldLink RX4 63 "FoodTruckRota$Square" "disappointed" "I") (by decide +kernel)) (fun _ h9 => h9) rfl (by decide +kernel) rfl rfl (Nat.le_of_ble_eq_true rfl) dX4_endDay_23 (fun H locs hP hD hS => ?_)
        have hP := ft_cast hP ft_S_p6
        have hD := ft_castD hD ft_S_p6
        have hP : va_P dC vwCl (ft_WS ad k (va_up ((s_X6_sendAllAway r_2 (51 + 17 * (tn y1_2))).2) 6 ((r_2 6) + ((s_X6_sendAllAway r_2 (51 + 17 * (tn y1_2))).1)))) H := hP
        have hD : va_D (ft_A 23 ad) (ft_WS ad k (va_up ((s_X6_sendAllAway r_2 (51 + 17 * (tn y1_2))).2) 6 ((r_2 6) + ((s_X6_sendAllAway r_2 (51 + 17 * (tn y1_2))).1)))) := hD
        refine lv_iinc (v := y1_2 + 1) (lv' := [(1, .int (y1_2 + 1)), (0, .ref (ad 0))]) hx hb dX4_endDay_26 hl (k := 0) rfl rfl (by decide) rfl (fun ls hl => ?_)
        refine lv_goto (tgt := 2) hx hb dX4_endDay_29 (by decide) ?_
        exact ih_2 (y1_2 + 1) (i_2 + 1) (by rw [hi_2, nI_1]) hlt_2 (by omega) (va_up ((s_X6_sendAllAway r_2 (51 + 17 * (tn y1_2))).2) 6 ((r_2 6) + ((s_X6_sendAllAway r_2 (51 + 17 * (tn y1_2))).1))) _ _ hP hD hS ls (lv_sub hl [0, 1] rfl) hsp
  refine loop_2 _ (fun y1_2 i_2 hi_2 hm_2 r_2 H locs hP hD hS ls hl hsp => ?_) (tn 6 + 1) 0 0 rfl (by omega) (by omega) r _ _ hP hD hS ls (lv_sub hl [0, 1] rfl) hsp
  refine lv_aload_n hx hb dX4_endDay_32 rfl (lv_at hl 1 rfl) ?_
  refine lv_dup hx hb dX4_endDay_33 rfl ?_
  refine va_get (D := dC) (ci := 6) (v := .int (r_2 1)) (C := RX4) (T := TX4) (N := 12) hx hb hts (by decide +kernel) hown hK.1 hP 0 (ft_get' (by decide) rfl) rfl 5 (by decide) (hts (.fieldLink RX4 51 "FoodTruckRota$Square" "dayCounter" "I") (by decide +kernel)) (fun _ h9 => h9) rfl dX4_endDay_34 ?_
  refine lv_iconst (v := 1) hx hb dX4_endDay_37 (by decide) ?_
  refine lv_iadd hx hb dX4_endDay_38 ?_
  refine va_put (D := dC) (ci := 6) (v := .int ((r_2 1) + 1)) (ty := .int) (C := RX4) (T := TX4) (N := 12) hx hb hts (by decide +kernel) tyX4 tyX4_ok nmX4 hown hK.1 hP hD hS 0 (ft_get' (by decide) rfl) rfl 5 (by decide) (hts (.fieldLink RX4 51 "FoodTruckRota$Square" "dayCounter" "I") (by decide +kernel)) (fun _ h9 => h9) rfl (by decide +kernel) rfl rfl (Nat.le_of_ble_eq_true rfl) dX4_endDay_39 (fun H locs hP hD hS => ?_)
  have hP := ft_cast hP ft_S_p1
  have hD := ft_castD hD ft_S_p1
  have hP : va_P dC vwCl (ft_WS ad k (va_up r_2 1 ((r_2 1) + 1))) H := hP
  have hD : va_D (ft_A 23 ad) (ft_WS ad k (va_up r_2 1 ((r_2 1) + 1))) := hD
  refine lv_aload_n hx hb dX4_endDay_42 rfl (lv_at hl 1 rfl) ?_
  refine lv_iconst (v := 0) hx hb dX4_endDay_43 (by decide) ?_
  refine va_put (D := dC) (ci := 6) (v := .int (0)) (ty := .int) (C := RX4) (T := TX4) (N := 12) hx hb hts (by decide +kernel) tyX4 tyX4_ok nmX4 hown hK.1 hP hD hS 0 (ft_get' (by decide) rfl) rfl 6 (by decide) (hts (.fieldLink RX4 54 "FoodTruckRota$Square" "minuteCounter" "I") (by decide +kernel)) (fun _ h9 => h9) rfl (by decide +kernel) rfl rfl (Nat.le_of_ble_eq_true rfl) dX4_endDay_44 (fun H locs hP hD hS => ?_)
  have hP := ft_cast hP ft_S_p2
  have hD := ft_castD hD ft_S_p2
  have hP : va_P dC vwCl (ft_WS ad k (va_up (va_up r_2 1 ((r_2 1) + 1)) 2 0)) H := hP
  have hD : va_D (ft_A 23 ad) (ft_WS ad k (va_up (va_up r_2 1 ((r_2 1) + 1)) 2 0)) := hD
  exact W.vret hx hb hr (fun t ht hW => ⟨⟨(va_up (va_up r_2 1 ((r_2 1) + 1)) 2 0), rfl, hsp, ft_heap ht hP⟩, hS.F ht⟩) hS.2.2 dX4_endDay_47

def s_X4_letWork (r : Nat → Int32) (i1 : Nat) : (Nat → Int32) := if (s_X7_isDish (s_X6_wishAt r (51 + 17 * i1) 0)) = 0 then (r) else (if (r (51 + 17 * i1 + 1)) = 0 then (if (ft_ar r (51 + 17 * i1 + 4) 4 (tn (s_X6_wishAt r (51 + 17 * i1) 0))) = 0 then (va_up (s_X6_dropFirst r (51 + 17 * i1)) 6 (((s_X6_dropFirst r (51 + 17 * i1)) 6) + 1)) else (if ((va_up (va_up r (51 + 17 * i1 + 1) (s_X7_minutesFor (s_X6_wishAt r (51 + 17 * i1) 0))) (51 + 17 * i1 + 1) (((va_up r (51 + 17 * i1 + 1) (s_X7_minutesFor (s_X6_wishAt r (51 + 17 * i1) 0))) (51 + 17 * i1 + 1)) - 1)) (51 + 17 * i1 + 1)) ≤ 0 then (va_up (va_up (va_up (va_up (s_X6_dropFirst (va_up (va_up r (51 + 17 * i1 + 1) (s_X7_minutesFor (s_X6_wishAt r (51 + 17 * i1) 0))) (51 + 17 * i1 + 1) (((va_up r (51 + 17 * i1 + 1) (s_X7_minutesFor (s_X6_wishAt r (51 + 17 * i1) 0))) (51 + 17 * i1 + 1)) - 1)) (51 + 17 * i1)) (51 + 17 * i1 + 4 + tn (s_X6_wishAt r (51 + 17 * i1) 0)) ((ft_ar (s_X6_dropFirst (va_up (va_up r (51 + 17 * i1 + 1) (s_X7_minutesFor (s_X6_wishAt r (51 + 17 * i1) 0))) (51 + 17 * i1 + 1) (((va_up r (51 + 17 * i1 + 1) (s_X7_minutesFor (s_X6_wishAt r (51 + 17 * i1) 0))) (51 + 17 * i1 + 1)) - 1)) (51 + 17 * i1)) (51 + 17 * i1 + 4) 4 (tn (s_X6_wishAt r (51 + 17 * i1) 0))) - 1)) (51 + 17 * i1 + 0) (((va_up (s_X6_dropFirst (va_up (va_up r (51 + 17 * i1 + 1) (s_X7_minutesFor (s_X6_wishAt r (51 + 17 * i1) 0))) (51 + 17 * i1 + 1) (((va_up r (51 + 17 * i1 + 1) (s_X7_minutesFor (s_X6_wishAt r (51 + 17 * i1) 0))) (51 + 17 * i1 + 1)) - 1)) (51 + 17 * i1)) (51 + 17 * i1 + 4 + tn (s_X6_wishAt r (51 + 17 * i1) 0)) ((ft_ar (s_X6_dropFirst (va_up (va_up r (51 + 17 * i1 + 1) (s_X7_minutesFor (s_X6_wishAt r (51 + 17 * i1) 0))) (51 + 17 * i1 + 1) (((va_up r (51 + 17 * i1 + 1) (s_X7_minutesFor (s_X6_wishAt r (51 + 17 * i1) 0))) (51 + 17 * i1 + 1)) - 1)) (51 + 17 * i1)) (51 + 17 * i1 + 4) 4 (tn (s_X6_wishAt r (51 + 17 * i1) 0))) - 1)) (51 + 17 * i1 + 0)) + (ft_ar (va_up (s_X6_dropFirst (va_up (va_up r (51 + 17 * i1 + 1) (s_X7_minutesFor (s_X6_wishAt r (51 + 17 * i1) 0))) (51 + 17 * i1 + 1) (((va_up r (51 + 17 * i1 + 1) (s_X7_minutesFor (s_X6_wishAt r (51 + 17 * i1) 0))) (51 + 17 * i1 + 1)) - 1)) (51 + 17 * i1)) (51 + 17 * i1 + 4 + tn (s_X6_wishAt r (51 + 17 * i1) 0)) ((ft_ar (s_X6_dropFirst (va_up (va_up r (51 + 17 * i1 + 1) (s_X7_minutesFor (s_X6_wishAt r (51 + 17 * i1) 0))) (51 + 17 * i1 + 1) (((va_up r (51 + 17 * i1 + 1) (s_X7_minutesFor (s_X6_wishAt r (51 + 17 * i1) 0))) (51 + 17 * i1 + 1)) - 1)) (51 + 17 * i1)) (51 + 17 * i1 + 4) 4 (tn (s_X6_wishAt r (51 + 17 * i1) 0))) - 1)) (8) 4 (tn (s_X6_wishAt r (51 + 17 * i1) 0))))) (12 + tn (s_X6_wishAt r (51 + 17 * i1) 0)) ((ft_ar (va_up (va_up (s_X6_dropFirst (va_up (va_up r (51 + 17 * i1 + 1) (s_X7_minutesFor (s_X6_wishAt r (51 + 17 * i1) 0))) (51 + 17 * i1 + 1) (((va_up r (51 + 17 * i1 + 1) (s_X7_minutesFor (s_X6_wishAt r (51 + 17 * i1) 0))) (51 + 17 * i1 + 1)) - 1)) (51 + 17 * i1)) (51 + 17 * i1 + 4 + tn (s_X6_wishAt r (51 + 17 * i1) 0)) ((ft_ar (s_X6_dropFirst (va_up (va_up r (51 + 17 * i1 + 1) (s_X7_minutesFor (s_X6_wishAt r (51 + 17 * i1) 0))) (51 + 17 * i1 + 1) (((va_up r (51 + 17 * i1 + 1) (s_X7_minutesFor (s_X6_wishAt r (51 + 17 * i1) 0))) (51 + 17 * i1 + 1)) - 1)) (51 + 17 * i1)) (51 + 17 * i1 + 4) 4 (tn (s_X6_wishAt r (51 + 17 * i1) 0))) - 1)) (51 + 17 * i1 + 0) (((va_up (s_X6_dropFirst (va_up (va_up r (51 + 17 * i1 + 1) (s_X7_minutesFor (s_X6_wishAt r (51 + 17 * i1) 0))) (51 + 17 * i1 + 1) (((va_up r (51 + 17 * i1 + 1) (s_X7_minutesFor (s_X6_wishAt r (51 + 17 * i1) 0))) (51 + 17 * i1 + 1)) - 1)) (51 + 17 * i1)) (51 + 17 * i1 + 4 + tn (s_X6_wishAt r (51 + 17 * i1) 0)) ((ft_ar (s_X6_dropFirst (va_up (va_up r (51 + 17 * i1 + 1) (s_X7_minutesFor (s_X6_wishAt r (51 + 17 * i1) 0))) (51 + 17 * i1 + 1) (((va_up r (51 + 17 * i1 + 1) (s_X7_minutesFor (s_X6_wishAt r (51 + 17 * i1) 0))) (51 + 17 * i1 + 1)) - 1)) (51 + 17 * i1)) (51 + 17 * i1 + 4) 4 (tn (s_X6_wishAt r (51 + 17 * i1) 0))) - 1)) (51 + 17 * i1 + 0)) + (ft_ar (va_up (s_X6_dropFirst (va_up (va_up r (51 + 17 * i1 + 1) (s_X7_minutesFor (s_X6_wishAt r (51 + 17 * i1) 0))) (51 + 17 * i1 + 1) (((va_up r (51 + 17 * i1 + 1) (s_X7_minutesFor (s_X6_wishAt r (51 + 17 * i1) 0))) (51 + 17 * i1 + 1)) - 1)) (51 + 17 * i1)) (51 + 17 * i1 + 4 + tn (s_X6_wishAt r (51 + 17 * i1) 0)) ((ft_ar (s_X6_dropFirst (va_up (va_up r (51 + 17 * i1 + 1) (s_X7_minutesFor (s_X6_wishAt r (51 + 17 * i1) 0))) (51 + 17 * i1 + 1) (((va_up r (51 + 17 * i1 + 1) (s_X7_minutesFor (s_X6_wishAt r (51 + 17 * i1) 0))) (51 + 17 * i1 + 1)) - 1)) (51 + 17 * i1)) (51 + 17 * i1 + 4) 4 (tn (s_X6_wishAt r (51 + 17 * i1) 0))) - 1)) (8) 4 (tn (s_X6_wishAt r (51 + 17 * i1) 0))))) (12) 4 (tn (s_X6_wishAt r (51 + 17 * i1) 0))) + 1)) 5 (((va_up (va_up (va_up (s_X6_dropFirst (va_up (va_up r (51 + 17 * i1 + 1) (s_X7_minutesFor (s_X6_wishAt r (51 + 17 * i1) 0))) (51 + 17 * i1 + 1) (((va_up r (51 + 17 * i1 + 1) (s_X7_minutesFor (s_X6_wishAt r (51 + 17 * i1) 0))) (51 + 17 * i1 + 1)) - 1)) (51 + 17 * i1)) (51 + 17 * i1 + 4 + tn (s_X6_wishAt r (51 + 17 * i1) 0)) ((ft_ar (s_X6_dropFirst (va_up (va_up r (51 + 17 * i1 + 1) (s_X7_minutesFor (s_X6_wishAt r (51 + 17 * i1) 0))) (51 + 17 * i1 + 1) (((va_up r (51 + 17 * i1 + 1) (s_X7_minutesFor (s_X6_wishAt r (51 + 17 * i1) 0))) (51 + 17 * i1 + 1)) - 1)) (51 + 17 * i1)) (51 + 17 * i1 + 4) 4 (tn (s_X6_wishAt r (51 + 17 * i1) 0))) - 1)) (51 + 17 * i1 + 0) (((va_up (s_X6_dropFirst (va_up (va_up r (51 + 17 * i1 + 1) (s_X7_minutesFor (s_X6_wishAt r (51 + 17 * i1) 0))) (51 + 17 * i1 + 1) (((va_up r (51 + 17 * i1 + 1) (s_X7_minutesFor (s_X6_wishAt r (51 + 17 * i1) 0))) (51 + 17 * i1 + 1)) - 1)) (51 + 17 * i1)) (51 + 17 * i1 + 4 + tn (s_X6_wishAt r (51 + 17 * i1) 0)) ((ft_ar (s_X6_dropFirst (va_up (va_up r (51 + 17 * i1 + 1) (s_X7_minutesFor (s_X6_wishAt r (51 + 17 * i1) 0))) (51 + 17 * i1 + 1) (((va_up r (51 + 17 * i1 + 1) (s_X7_minutesFor (s_X6_wishAt r (51 + 17 * i1) 0))) (51 + 17 * i1 + 1)) - 1)) (51 + 17 * i1)) (51 + 17 * i1 + 4) 4 (tn (s_X6_wishAt r (51 + 17 * i1) 0))) - 1)) (51 + 17 * i1 + 0)) + (ft_ar (va_up (s_X6_dropFirst (va_up (va_up r (51 + 17 * i1 + 1) (s_X7_minutesFor (s_X6_wishAt r (51 + 17 * i1) 0))) (51 + 17 * i1 + 1) (((va_up r (51 + 17 * i1 + 1) (s_X7_minutesFor (s_X6_wishAt r (51 + 17 * i1) 0))) (51 + 17 * i1 + 1)) - 1)) (51 + 17 * i1)) (51 + 17 * i1 + 4 + tn (s_X6_wishAt r (51 + 17 * i1) 0)) ((ft_ar (s_X6_dropFirst (va_up (va_up r (51 + 17 * i1 + 1) (s_X7_minutesFor (s_X6_wishAt r (51 + 17 * i1) 0))) (51 + 17 * i1 + 1) (((va_up r (51 + 17 * i1 + 1) (s_X7_minutesFor (s_X6_wishAt r (51 + 17 * i1) 0))) (51 + 17 * i1 + 1)) - 1)) (51 + 17 * i1)) (51 + 17 * i1 + 4) 4 (tn (s_X6_wishAt r (51 + 17 * i1) 0))) - 1)) (8) 4 (tn (s_X6_wishAt r (51 + 17 * i1) 0))))) (12 + tn (s_X6_wishAt r (51 + 17 * i1) 0)) ((ft_ar (va_up (va_up (s_X6_dropFirst (va_up (va_up r (51 + 17 * i1 + 1) (s_X7_minutesFor (s_X6_wishAt r (51 + 17 * i1) 0))) (51 + 17 * i1 + 1) (((va_up r (51 + 17 * i1 + 1) (s_X7_minutesFor (s_X6_wishAt r (51 + 17 * i1) 0))) (51 + 17 * i1 + 1)) - 1)) (51 + 17 * i1)) (51 + 17 * i1 + 4 + tn (s_X6_wishAt r (51 + 17 * i1) 0)) ((ft_ar (s_X6_dropFirst (va_up (va_up r (51 + 17 * i1 + 1) (s_X7_minutesFor (s_X6_wishAt r (51 + 17 * i1) 0))) (51 + 17 * i1 + 1) (((va_up r (51 + 17 * i1 + 1) (s_X7_minutesFor (s_X6_wishAt r (51 + 17 * i1) 0))) (51 + 17 * i1 + 1)) - 1)) (51 + 17 * i1)) (51 + 17 * i1 + 4) 4 (tn (s_X6_wishAt r (51 + 17 * i1) 0))) - 1)) (51 + 17 * i1 + 0) (((va_up (s_X6_dropFirst (va_up (va_up r (51 + 17 * i1 + 1) (s_X7_minutesFor (s_X6_wishAt r (51 + 17 * i1) 0))) (51 + 17 * i1 + 1) (((va_up r (51 + 17 * i1 + 1) (s_X7_minutesFor (s_X6_wishAt r (51 + 17 * i1) 0))) (51 + 17 * i1 + 1)) - 1)) (51 + 17 * i1)) (51 + 17 * i1 + 4 + tn (s_X6_wishAt r (51 + 17 * i1) 0)) ((ft_ar (s_X6_dropFirst (va_up (va_up r (51 + 17 * i1 + 1) (s_X7_minutesFor (s_X6_wishAt r (51 + 17 * i1) 0))) (51 + 17 * i1 + 1) (((va_up r (51 + 17 * i1 + 1) (s_X7_minutesFor (s_X6_wishAt r (51 + 17 * i1) 0))) (51 + 17 * i1 + 1)) - 1)) (51 + 17 * i1)) (51 + 17 * i1 + 4) 4 (tn (s_X6_wishAt r (51 + 17 * i1) 0))) - 1)) (51 + 17 * i1 + 0)) + (ft_ar (va_up (s_X6_dropFirst (va_up (va_up r (51 + 17 * i1 + 1) (s_X7_minutesFor (s_X6_wishAt r (51 + 17 * i1) 0))) (51 + 17 * i1 + 1) (((va_up r (51 + 17 * i1 + 1) (s_X7_minutesFor (s_X6_wishAt r (51 + 17 * i1) 0))) (51 + 17 * i1 + 1)) - 1)) (51 + 17 * i1)) (51 + 17 * i1 + 4 + tn (s_X6_wishAt r (51 + 17 * i1) 0)) ((ft_ar (s_X6_dropFirst (va_up (va_up r (51 + 17 * i1 + 1) (s_X7_minutesFor (s_X6_wishAt r (51 + 17 * i1) 0))) (51 + 17 * i1 + 1) (((va_up r (51 + 17 * i1 + 1) (s_X7_minutesFor (s_X6_wishAt r (51 + 17 * i1) 0))) (51 + 17 * i1 + 1)) - 1)) (51 + 17 * i1)) (51 + 17 * i1 + 4) 4 (tn (s_X6_wishAt r (51 + 17 * i1) 0))) - 1)) (8) 4 (tn (s_X6_wishAt r (51 + 17 * i1) 0))))) (12) 4 (tn (s_X6_wishAt r (51 + 17 * i1) 0))) + 1)) 5) + 1)) else (va_up (va_up r (51 + 17 * i1 + 1) (s_X7_minutesFor (s_X6_wishAt r (51 + 17 * i1) 0))) (51 + 17 * i1 + 1) (((va_up r (51 + 17 * i1 + 1) (s_X7_minutesFor (s_X6_wishAt r (51 + 17 * i1) 0))) (51 + 17 * i1 + 1)) - 1)))) else (if ((va_up r (51 + 17 * i1 + 1) ((r (51 + 17 * i1 + 1)) - 1)) (51 + 17 * i1 + 1)) ≤ 0 then (va_up (va_up (va_up (va_up (s_X6_dropFirst (va_up r (51 + 17 * i1 + 1) ((r (51 + 17 * i1 + 1)) - 1)) (51 + 17 * i1)) (51 + 17 * i1 + 4 + tn (s_X6_wishAt r (51 + 17 * i1) 0)) ((ft_ar (s_X6_dropFirst (va_up r (51 + 17 * i1 + 1) ((r (51 + 17 * i1 + 1)) - 1)) (51 + 17 * i1)) (51 + 17 * i1 + 4) 4 (tn (s_X6_wishAt r (51 + 17 * i1) 0))) - 1)) (51 + 17 * i1 + 0) (((va_up (s_X6_dropFirst (va_up r (51 + 17 * i1 + 1) ((r (51 + 17 * i1 + 1)) - 1)) (51 + 17 * i1)) (51 + 17 * i1 + 4 + tn (s_X6_wishAt r (51 + 17 * i1) 0)) ((ft_ar (s_X6_dropFirst (va_up r (51 + 17 * i1 + 1) ((r (51 + 17 * i1 + 1)) - 1)) (51 + 17 * i1)) (51 + 17 * i1 + 4) 4 (tn (s_X6_wishAt r (51 + 17 * i1) 0))) - 1)) (51 + 17 * i1 + 0)) + (ft_ar (va_up (s_X6_dropFirst (va_up r (51 + 17 * i1 + 1) ((r (51 + 17 * i1 + 1)) - 1)) (51 + 17 * i1)) (51 + 17 * i1 + 4 + tn (s_X6_wishAt r (51 + 17 * i1) 0)) ((ft_ar (s_X6_dropFirst (va_up r (51 + 17 * i1 + 1) ((r (51 + 17 * i1 + 1)) - 1)) (51 + 17 * i1)) (51 + 17 * i1 + 4) 4 (tn (s_X6_wishAt r (51 + 17 * i1) 0))) - 1)) (8) 4 (tn (s_X6_wishAt r (51 + 17 * i1) 0))))) (12 + tn (s_X6_wishAt r (51 + 17 * i1) 0)) ((ft_ar (va_up (va_up (s_X6_dropFirst (va_up r (51 + 17 * i1 + 1) ((r (51 + 17 * i1 + 1)) - 1)) (51 + 17 * i1)) (51 + 17 * i1 + 4 + tn (s_X6_wishAt r (51 + 17 * i1) 0)) ((ft_ar (s_X6_dropFirst (va_up r (51 + 17 * i1 + 1) ((r (51 + 17 * i1 + 1)) - 1)) (51 + 17 * i1)) (51 + 17 * i1 + 4) 4 (tn (s_X6_wishAt r (51 + 17 * i1) 0))) - 1)) (51 + 17 * i1 + 0) (((va_up (s_X6_dropFirst (va_up r (51 + 17 * i1 + 1) ((r (51 + 17 * i1 + 1)) - 1)) (51 + 17 * i1)) (51 + 17 * i1 + 4 + tn (s_X6_wishAt r (51 + 17 * i1) 0)) ((ft_ar (s_X6_dropFirst (va_up r (51 + 17 * i1 + 1) ((r (51 + 17 * i1 + 1)) - 1)) (51 + 17 * i1)) (51 + 17 * i1 + 4) 4 (tn (s_X6_wishAt r (51 + 17 * i1) 0))) - 1)) (51 + 17 * i1 + 0)) + (ft_ar (va_up (s_X6_dropFirst (va_up r (51 + 17 * i1 + 1) ((r (51 + 17 * i1 + 1)) - 1)) (51 + 17 * i1)) (51 + 17 * i1 + 4 + tn (s_X6_wishAt r (51 + 17 * i1) 0)) ((ft_ar (s_X6_dropFirst (va_up r (51 + 17 * i1 + 1) ((r (51 + 17 * i1 + 1)) - 1)) (51 + 17 * i1)) (51 + 17 * i1 + 4) 4 (tn (s_X6_wishAt r (51 + 17 * i1) 0))) - 1)) (8) 4 (tn (s_X6_wishAt r (51 + 17 * i1) 0))))) (12) 4 (tn (s_X6_wishAt r (51 + 17 * i1) 0))) + 1)) 5 (((va_up (va_up (va_up (s_X6_dropFirst (va_up r (51 + 17 * i1 + 1) ((r (51 + 17 * i1 + 1)) - 1)) (51 + 17 * i1)) (51 + 17 * i1 + 4 + tn (s_X6_wishAt r (51 + 17 * i1) 0)) ((ft_ar (s_X6_dropFirst (va_up r (51 + 17 * i1 + 1) ((r (51 + 17 * i1 + 1)) - 1)) (51 + 17 * i1)) (51 + 17 * i1 + 4) 4 (tn (s_X6_wishAt r (51 + 17 * i1) 0))) - 1)) (51 + 17 * i1 + 0) (((va_up (s_X6_dropFirst (va_up r (51 + 17 * i1 + 1) ((r (51 + 17 * i1 + 1)) - 1)) (51 + 17 * i1)) (51 + 17 * i1 + 4 + tn (s_X6_wishAt r (51 + 17 * i1) 0)) ((ft_ar (s_X6_dropFirst (va_up r (51 + 17 * i1 + 1) ((r (51 + 17 * i1 + 1)) - 1)) (51 + 17 * i1)) (51 + 17 * i1 + 4) 4 (tn (s_X6_wishAt r (51 + 17 * i1) 0))) - 1)) (51 + 17 * i1 + 0)) + (ft_ar (va_up (s_X6_dropFirst (va_up r (51 + 17 * i1 + 1) ((r (51 + 17 * i1 + 1)) - 1)) (51 + 17 * i1)) (51 + 17 * i1 + 4 + tn (s_X6_wishAt r (51 + 17 * i1) 0)) ((ft_ar (s_X6_dropFirst (va_up r (51 + 17 * i1 + 1) ((r (51 + 17 * i1 + 1)) - 1)) (51 + 17 * i1)) (51 + 17 * i1 + 4) 4 (tn (s_X6_wishAt r (51 + 17 * i1) 0))) - 1)) (8) 4 (tn (s_X6_wishAt r (51 + 17 * i1) 0))))) (12 + tn (s_X6_wishAt r (51 + 17 * i1) 0)) ((ft_ar (va_up (va_up (s_X6_dropFirst (va_up r (51 + 17 * i1 + 1) ((r (51 + 17 * i1 + 1)) - 1)) (51 + 17 * i1)) (51 + 17 * i1 + 4 + tn (s_X6_wishAt r (51 + 17 * i1) 0)) ((ft_ar (s_X6_dropFirst (va_up r (51 + 17 * i1 + 1) ((r (51 + 17 * i1 + 1)) - 1)) (51 + 17 * i1)) (51 + 17 * i1 + 4) 4 (tn (s_X6_wishAt r (51 + 17 * i1) 0))) - 1)) (51 + 17 * i1 + 0) (((va_up (s_X6_dropFirst (va_up r (51 + 17 * i1 + 1) ((r (51 + 17 * i1 + 1)) - 1)) (51 + 17 * i1)) (51 + 17 * i1 + 4 + tn (s_X6_wishAt r (51 + 17 * i1) 0)) ((ft_ar (s_X6_dropFirst (va_up r (51 + 17 * i1 + 1) ((r (51 + 17 * i1 + 1)) - 1)) (51 + 17 * i1)) (51 + 17 * i1 + 4) 4 (tn (s_X6_wishAt r (51 + 17 * i1) 0))) - 1)) (51 + 17 * i1 + 0)) + (ft_ar (va_up (s_X6_dropFirst (va_up r (51 + 17 * i1 + 1) ((r (51 + 17 * i1 + 1)) - 1)) (51 + 17 * i1)) (51 + 17 * i1 + 4 + tn (s_X6_wishAt r (51 + 17 * i1) 0)) ((ft_ar (s_X6_dropFirst (va_up r (51 + 17 * i1 + 1) ((r (51 + 17 * i1 + 1)) - 1)) (51 + 17 * i1)) (51 + 17 * i1 + 4) 4 (tn (s_X6_wishAt r (51 + 17 * i1) 0))) - 1)) (8) 4 (tn (s_X6_wishAt r (51 + 17 * i1) 0))))) (12) 4 (tn (s_X6_wishAt r (51 + 17 * i1) 0))) + 1)) 5) + 1)) else (va_up r (51 + 17 * i1 + 1) ((r (51 + 17 * i1 + 1)) - 1))))
set_option maxHeartbeats 4000000 in
set_option maxRecDepth 100000 in
theorem c_X4_letWork (l : Launch) (dC : va_G) (ad : Nat → Nat) (k : Nat → ClassId) (r : Nat → Int32) (i1 : Nat) (hi1 : i1 < 6) : Met l yX4_letWork wsX4_letWork ({ frames := 1, cells := 0, slots := 0, locals := 21 }) (ft_Pd dC k [.ref (ad 0), .ref (ft_at ad i1 0)] (ft_WS ad k r)) (va_Qv (fun u : Nat → Int32 => u = s_X4_letWork r i1) (fun (u : Nat → Int32) (t : State) => va_P dC vwCl (ft_WS ad k u) t.heap) (ft_A 23 ad)) 0 0 (ft_A 23 ad) := by
  refine Met.ofW (cc := cX4_letWork) (maxL := 3) (ret := none) (by decide) rfl ?_
  intro p e s m args below meth c s₁ B hml hv
  obtain ⟨hargs, hP, hK, hD0⟩ := hv
  subst hargs
  have hx := B.exec
  have hb := B.bytes
  have hr := B.returns
  have hts := atoms_spec (ws := wsX4_letWork) B.pre
  have hown : s.vm.findClass RX4 = some m.cls := findClass_of_methodNamed B.named
  have hlocks := B.notSynchronized
  have hD := ft_D_self hD0
  have hS : va_S (ft_A 23 ad) s.heap s.heap [] := va_S.rf
  have hl := lv_entry ([.ref (ad 0), .ref (ft_at ad i1 0)]) (n := 3) (Nat.le_of_ble_eq_true rfl)
  rw [lg_entry_eq]
  generalize (lg_sl ([.ref (ad 0), .ref (ft_at ad i1 0)]) ++ List.replicate (3 - (lg_sl ([.ref (ad 0), .ref (ft_at ad i1 0)])).length) Slot.unset).toArray = ls at hl ⊢
  have hl : lv_has ls 3 [(0, .ref (ad 0)), (1, .ref (ft_at ad i1 0))] := hl
  have hsp := (s_X4_letWork.eq_1 r i1).symm
  refine lv_aload_n hx hb dX4_letWork_0 rfl (lv_at hl 1 rfl) ?_
  refine lv_iconst (v := 0) hx hb dX4_letWork_1 (by decide) ?_
  refine vp_callSi (va_Run.run (va_runV (As := [.int (0)]) (rest := []) ⟨hx, hb, hml, hown, hts⟩ (c_X6_wishAt l dC (ft_at ad i1) k r (51 + 17 * i1) 0) (cwV 1 hts gX4_letWork_X6_wishAt rfl rfl rfl (by decide +kernel) ⟨Nat.le_of_ble_eq_true rfl, Nat.le_of_ble_eq_true rfl⟩) (ft_preVc hK (ft_S_P hP hi1) (ci := 8) rfl (ft_get' (by decide) rfl)) rfl rfl hl.1 rfl (lv_room (Nat.le_of_ble_eq_true rfl)) dX4_letWork_2 ⟨Nat.le_of_ble_eq_true rfl, Nat.le_of_ble_eq_true rfl⟩)) (fun z hz => ?_)
  subst hz
  refine lv_istore_n (lv' := [(2, .int ((s_X6_wishAt r (51 + 17 * i1) 0))), (0, .ref (ad 0)), (1, .ref (ft_at ad i1 0))]) hx hb dX4_letWork_5 rfl hl (by decide) rfl (fun ls hl => ?_)
  refine lv_iload_n hx hb dX4_letWork_6 rfl (lv_at hl 0 rfl) ?_
  refine vp_callSi (va_Run.run (va_runSN (As := [.int ((s_X6_wishAt r (51 + 17 * i1) 0))]) (rest := []) ⟨hx, hb, hml, hown, hts⟩ (c_X7_isDish l (s_X6_wishAt r (51 + 17 * i1) 0)) ⟨va_cnB 1 hts ggX4_letWork_X7_isDish rfl rfl rfl (ft_nm hK.2 2 rfl) (hts (.initialized RX7) (by decide +kernel)) (by decide +kernel) ⟨Nat.le_of_ble_eq_true rfl, Nat.le_of_ble_eq_true rfl⟩, hts (.static yX7_isDish) (by decide +kernel), trivial⟩ ft_preSn rfl rfl hl.1 rfl (lv_room (Nat.le_of_ble_eq_true rfl)) dX4_letWork_7 ⟨Nat.le_of_ble_eq_true rfl, Nat.le_of_ble_eq_true rfl⟩)) (fun z hz => ?_)
  subst hz
  refine lv_if_ne (tgt := 14) hx hb dX4_letWork_10 (by decide) (fun c_10 => ?_) (fun c_10 => ?_)
  · replace hsp := (if_neg c_10).symm.trans hsp
    refine lv_aload_n hx hb dX4_letWork_14 rfl (lv_at hl 2 rfl) ?_
    refine va_getN (D := dC) (ci := 8) (v := .int (r (51 + 17 * i1 + 1))) (C := RX6) (T := TX6) (N := 6) hx hb hts (by decide +kernel) hown hK.1 (ft_S_P hP hi1) 0 (ft_get' (by decide) rfl) rfl 3 (by decide) (ft_nl hK.2 4 rfl) (fun _ h9 => h9) rfl dX4_letWork_15 ?_
    refine lv_if_ne (tgt := 53) hx hb dX4_letWork_18 (by decide) (fun c_18 => ?_) (fun c_18 => ?_)
    · replace hsp := (if_neg c_18).symm.trans hsp
      refine lv_aload_n hx hb dX4_letWork_53 rfl (lv_at hl 2 rfl) ?_
      refine lv_dup hx hb dX4_letWork_54 rfl ?_
      refine va_getN (D := dC) (ci := 8) (v := .int (r (51 + 17 * i1 + 1))) (C := RX6) (T := TX6) (N := 6) hx hb hts (by decide +kernel) hown hK.1 (ft_S_P hP hi1) 0 (ft_get' (by decide) rfl) rfl 3 (by decide) (ft_nl hK.2 4 rfl) (fun _ h9 => h9) rfl dX4_letWork_55 ?_
      refine lv_iconst (v := 1) hx hb dX4_letWork_58 (by decide) ?_
      refine lv_isub hx hb dX4_letWork_59 ?_
      refine va_putN (D := dC) (ci := 8) (v := .int ((r (51 + 17 * i1 + 1)) - 1)) (ty := .int) (C := RX6) (T := TX6) (N := 6) hx hb hts (by decide +kernel) tyX6 tyX6_ok nmX6 hown hK.1 hP hD hS (5 + 3 * i1 + 0) (ft_get' (by have := hi1; omega) (ft_S_T (by decide))) rfl 3 (by decide) (ft_nl hK.2 4 rfl) (fun _ h9 => h9) rfl (by decide +kernel) rfl rfl (Nat.le_of_ble_eq_true rfl) dX4_letWork_60 (fun H locs hP hD hS => ?_)
      have hP := ft_cast hP (ft_S_upT (i := i1) (x := 0) (r := r) (by decide) ft_T_p1 (ft_up_out (by omega) (by omega)))
      have hD := ft_castD hD (ft_S_upT (i := i1) (x := 0) (r := r) (by decide) ft_T_p1 (ft_up_out (by omega) (by omega)))
      have hP : va_P dC vwCl (ft_WS ad k (va_up r (51 + 17 * i1 + 1) ((r (51 + 17 * i1 + 1)) - 1))) H := hP
      have hD : va_D (ft_A 23 ad) (ft_WS ad k (va_up r (51 + 17 * i1 + 1) ((r (51 + 17 * i1 + 1)) - 1))) := hD
      refine lv_aload_n hx hb dX4_letWork_63 rfl (lv_at hl 2 rfl) ?_
      refine va_getN (D := dC) (ci := 8) (v := .int ((va_up r (51 + 17 * i1 + 1) ((r (51 + 17 * i1 + 1)) - 1)) (51 + 17 * i1 + 1))) (C := RX6) (T := TX6) (N := 6) hx hb hts (by decide +kernel) hown hK.1 (ft_S_P hP hi1) 0 (ft_get' (by decide) rfl) rfl 3 (by decide) (ft_nl hK.2 4 rfl) (fun _ h9 => h9) rfl dX4_letWork_64 ?_
      refine lv_if_le (tgt := 71) hx hb dX4_letWork_67 (by decide) (fun c_67 => ?_) (fun c_67 => ?_)
      · replace hsp := (if_pos c_67).symm.trans hsp
        refine lv_aload_n hx hb dX4_letWork_71 rfl (lv_at hl 2 rfl) ?_
        refine va_callv (va_runV (As := []) (rest := []) ⟨hx, hb, hml, hown, hts⟩ (c_X6_dropFirst l dC (ft_at ad i1) k (va_up r (51 + 17 * i1 + 1) ((r (51 + 17 * i1 + 1)) - 1)) (51 + 17 * i1)) (cwV 0 hts gX4_letWork_X6_dropFirst rfl rfl rfl (by decide +kernel) ⟨Nat.le_of_ble_eq_true rfl, Nat.le_of_ble_eq_true rfl⟩) (ft_preVd hK (ft_S_P hP hi1) (ft_S_D hD hi1) (ci := 8) rfl (ft_get' (by decide) rfl)) rfl rfl hl.1 rfl (lv_room (Nat.le_of_ble_eq_true rfl)) dX4_letWork_72 ⟨Nat.le_of_ble_eq_true rfl, Nat.le_of_ble_eq_true rfl⟩) hS (fun q _ h => ft_S_A hD hi1 q h) (fun q h => ft_S_A hD hi1 q h) (fun u t H1 locs ht hvm hw hB hz1 hk1 hS => ?_)
        subst hw
        rw [ht] at hB
        have hP : va_P dC vwCl (ft_WS ad k (s_X6_dropFirst (va_up r (51 + 17 * i1 + 1) ((r (51 + 17 * i1 + 1)) - 1)) (51 + 17 * i1))) H1 := ft_S_join hP hD hi1 hk1 hB (o_X6_dropFirst _ _)
        have hD : va_D (ft_A 23 ad) (ft_WS ad k (s_X6_dropFirst (va_up r (51 + 17 * i1 + 1) ((r (51 + 17 * i1 + 1)) - 1)) (51 + 17 * i1))) := ft_D_va hD _
        generalize H1 = H at hP hS ⊢
        refine lv_aload_n hx hb dX4_letWork_75 rfl (lv_at hl 2 rfl) ?_
        refine va_getN (D := dC) (ci := 8) (v := .ref (ft_at ad i1 1)) (C := RX6) (T := TX6) (N := 6) hx hb hts (by decide +kernel) hown hK.1 (ft_S_P hP hi1) 0 (ft_get' (by decide) rfl) rfl 0 (by decide) (ft_nl hK.2 0 rfl) (fun _ h9 => h9) rfl dX4_letWork_76 ?_
        refine lv_iload_n hx hb dX4_letWork_79 rfl (lv_at hl 0 rfl) ?_
        refine lv_dup2_11 hx hb dX4_letWork_80 rfl rfl ?_
        have h_81 : vp_in (s_X6_wishAt r (51 + 17 * i1) 0) 4 := by first | assumption | exact isTruck_in (by assumption) | exact isDish_in (by assumption)
        refine va_iald hx hb hK.1 (ft_S_P hP hi1) 1 0 (ft_get' (by decide) rfl) rfl h_81 dX4_letWork_81 ?_
        refine lv_iconst (v := 1) hx hb dX4_letWork_82 (by decide) ?_
        refine lv_isub hx hb dX4_letWork_83 ?_
        have h_84 : vp_in (s_X6_wishAt r (51 + 17 * i1) 0) 4 := by first | assumption | exact isTruck_in (by assumption) | exact isDish_in (by assumption)
        refine va_iast hx hb hK.1 hP hD hS (5 + 3 * i1 + 1) 0 (ft_get' (by have := hi1; omega) (ft_S_T (by decide))) rfl h_84 dX4_letWork_84 (fun H locs hP hD hS => ?_)
        have hP := ft_cast hP (ft_S_upT (i := i1) (x := 1) (r := (s_X6_dropFirst (va_up r (51 + 17 * i1 + 1) ((r (51 + 17 * i1 + 1)) - 1)) (51 + 17 * i1))) (by decide) (ft_T_a1 (ft_tn h_84)) (ft_up_a1 (ft_tn h_84)))
        have hD := ft_castD hD (ft_S_upT (i := i1) (x := 1) (r := (s_X6_dropFirst (va_up r (51 + 17 * i1 + 1) ((r (51 + 17 * i1 + 1)) - 1)) (51 + 17 * i1))) (by decide) (ft_T_a1 (ft_tn h_84)) (ft_up_a1 (ft_tn h_84)))
        have hP : va_P dC vwCl (ft_WS ad k (va_up (s_X6_dropFirst (va_up r (51 + 17 * i1 + 1) ((r (51 + 17 * i1 + 1)) - 1)) (51 + 17 * i1)) (51 + 17 * i1 + 4 + tn (s_X6_wishAt r (51 + 17 * i1) 0)) ((ft_ar (s_X6_dropFirst (va_up r (51 + 17 * i1 + 1) ((r (51 + 17 * i1 + 1)) - 1)) (51 + 17 * i1)) (51 + 17 * i1 + 4) 4 (tn (s_X6_wishAt r (51 + 17 * i1) 0))) - 1))) H := hP
        have hD : va_D (ft_A 23 ad) (ft_WS ad k (va_up (s_X6_dropFirst (va_up r (51 + 17 * i1 + 1) ((r (51 + 17 * i1 + 1)) - 1)) (51 + 17 * i1)) (51 + 17 * i1 + 4 + tn (s_X6_wishAt r (51 + 17 * i1) 0)) ((ft_ar (s_X6_dropFirst (va_up r (51 + 17 * i1 + 1) ((r (51 + 17 * i1 + 1)) - 1)) (51 + 17 * i1)) (51 + 17 * i1 + 4) 4 (tn (s_X6_wishAt r (51 + 17 * i1) 0))) - 1))) := hD
        refine lv_aload_n hx hb dX4_letWork_85 rfl (lv_at hl 2 rfl) ?_
        refine lv_dup hx hb dX4_letWork_86 rfl ?_
        refine va_getN (D := dC) (ci := 8) (v := .int ((va_up (s_X6_dropFirst (va_up r (51 + 17 * i1 + 1) ((r (51 + 17 * i1 + 1)) - 1)) (51 + 17 * i1)) (51 + 17 * i1 + 4 + tn (s_X6_wishAt r (51 + 17 * i1) 0)) ((ft_ar (s_X6_dropFirst (va_up r (51 + 17 * i1 + 1) ((r (51 + 17 * i1 + 1)) - 1)) (51 + 17 * i1)) (51 + 17 * i1 + 4) 4 (tn (s_X6_wishAt r (51 + 17 * i1) 0))) - 1)) (51 + 17 * i1 + 0))) (C := RX6) (T := TX6) (N := 6) hx hb hts (by decide +kernel) hown hK.1 (ft_S_P hP hi1) 0 (ft_get' (by decide) rfl) rfl 4 (by decide) (ft_nl hK.2 6 rfl) (fun _ h9 => h9) rfl dX4_letWork_87 ?_
        refine lv_aload_n hx hb dX4_letWork_90 rfl (lv_at hl 1 rfl) ?_
        refine va_get (D := dC) (ci := 6) (v := .ref (ad 3)) (C := RX4) (T := TX4) (N := 12) hx hb hts (by decide +kernel) hown hK.1 hP 0 (ft_get' (by decide) rfl) rfl 2 (by decide) (hts (.fieldLink RX4 21 "FoodTruckRota$Square" "prices" "[I") (by decide +kernel)) (fun _ h9 => h9) rfl dX4_letWork_91 ?_
        refine lv_iload_n hx hb dX4_letWork_94 rfl (lv_at hl 0 rfl) ?_
        have h_95 : vp_in (s_X6_wishAt r (51 + 17 * i1) 0) 4 := by first | assumption | exact isTruck_in (by assumption) | exact isDish_in (by assumption)
        refine va_iald hx hb hK.1 hP 3 0 (ft_get' (by decide) rfl) rfl h_95 dX4_letWork_95 ?_
        refine lv_iadd hx hb dX4_letWork_96 ?_
        refine va_putN (D := dC) (ci := 8) (v := .int (((va_up (s_X6_dropFirst (va_up r (51 + 17 * i1 + 1) ((r (51 + 17 * i1 + 1)) - 1)) (51 + 17 * i1)) (51 + 17 * i1 + 4 + tn (s_X6_wishAt r (51 + 17 * i1) 0)) ((ft_ar (s_X6_dropFirst (va_up r (51 + 17 * i1 + 1) ((r (51 + 17 * i1 + 1)) - 1)) (51 + 17 * i1)) (51 + 17 * i1 + 4) 4 (tn (s_X6_wishAt r (51 + 17 * i1) 0))) - 1)) (51 + 17 * i1 + 0)) + (ft_ar (va_up (s_X6_dropFirst (va_up r (51 + 17 * i1 + 1) ((r (51 + 17 * i1 + 1)) - 1)) (51 + 17 * i1)) (51 + 17 * i1 + 4 + tn (s_X6_wishAt r (51 + 17 * i1) 0)) ((ft_ar (s_X6_dropFirst (va_up r (51 + 17 * i1 + 1) ((r (51 + 17 * i1 + 1)) - 1)) (51 + 17 * i1)) (51 + 17 * i1 + 4) 4 (tn (s_X6_wishAt r (51 + 17 * i1) 0))) - 1)) (8) 4 (tn (s_X6_wishAt r (51 + 17 * i1) 0))))) (ty := .int) (C := RX6) (T := TX6) (N := 6) hx hb hts (by decide +kernel) tyX6 tyX6_ok nmX6 hown hK.1 hP hD hS (5 + 3 * i1 + 0) (ft_get' (by have := hi1; omega) (ft_S_T (by decide))) rfl 4 (by decide) (ft_nl hK.2 6 rfl) (fun _ h9 => h9) rfl (by decide +kernel) rfl rfl (Nat.le_of_ble_eq_true rfl) dX4_letWork_97 (fun H locs hP hD hS => ?_)
        have hP := ft_cast hP (ft_S_upT (i := i1) (x := 0) (r := (va_up (s_X6_dropFirst (va_up r (51 + 17 * i1 + 1) ((r (51 + 17 * i1 + 1)) - 1)) (51 + 17 * i1)) (51 + 17 * i1 + 4 + tn (s_X6_wishAt r (51 + 17 * i1) 0)) ((ft_ar (s_X6_dropFirst (va_up r (51 + 17 * i1 + 1) ((r (51 + 17 * i1 + 1)) - 1)) (51 + 17 * i1)) (51 + 17 * i1 + 4) 4 (tn (s_X6_wishAt r (51 + 17 * i1) 0))) - 1))) (by decide) ft_T_p0 (ft_up_out (by omega) (by omega)))
        have hD := ft_castD hD (ft_S_upT (i := i1) (x := 0) (r := (va_up (s_X6_dropFirst (va_up r (51 + 17 * i1 + 1) ((r (51 + 17 * i1 + 1)) - 1)) (51 + 17 * i1)) (51 + 17 * i1 + 4 + tn (s_X6_wishAt r (51 + 17 * i1) 0)) ((ft_ar (s_X6_dropFirst (va_up r (51 + 17 * i1 + 1) ((r (51 + 17 * i1 + 1)) - 1)) (51 + 17 * i1)) (51 + 17 * i1 + 4) 4 (tn (s_X6_wishAt r (51 + 17 * i1) 0))) - 1))) (by decide) ft_T_p0 (ft_up_out (by omega) (by omega)))
        have hP : va_P dC vwCl (ft_WS ad k (va_up (va_up (s_X6_dropFirst (va_up r (51 + 17 * i1 + 1) ((r (51 + 17 * i1 + 1)) - 1)) (51 + 17 * i1)) (51 + 17 * i1 + 4 + tn (s_X6_wishAt r (51 + 17 * i1) 0)) ((ft_ar (s_X6_dropFirst (va_up r (51 + 17 * i1 + 1) ((r (51 + 17 * i1 + 1)) - 1)) (51 + 17 * i1)) (51 + 17 * i1 + 4) 4 (tn (s_X6_wishAt r (51 + 17 * i1) 0))) - 1)) (51 + 17 * i1 + 0) (((va_up (s_X6_dropFirst (va_up r (51 + 17 * i1 + 1) ((r (51 + 17 * i1 + 1)) - 1)) (51 + 17 * i1)) (51 + 17 * i1 + 4 + tn (s_X6_wishAt r (51 + 17 * i1) 0)) ((ft_ar (s_X6_dropFirst (va_up r (51 + 17 * i1 + 1) ((r (51 + 17 * i1 + 1)) - 1)) (51 + 17 * i1)) (51 + 17 * i1 + 4) 4 (tn (s_X6_wishAt r (51 + 17 * i1) 0))) - 1)) (51 + 17 * i1 + 0)) + (ft_ar (va_up (s_X6_dropFirst (va_up r (51 + 17 * i1 + 1) ((r (51 + 17 * i1 + 1)) - 1)) (51 + 17 * i1)) (51 + 17 * i1 + 4 + tn (s_X6_wishAt r (51 + 17 * i1) 0)) ((ft_ar (s_X6_dropFirst (va_up r (51 + 17 * i1 + 1) ((r (51 + 17 * i1 + 1)) - 1)) (51 + 17 * i1)) (51 + 17 * i1 + 4) 4 (tn (s_X6_wishAt r (51 + 17 * i1) 0))) - 1)) (8) 4 (tn (s_X6_wishAt r (51 + 17 * i1) 0)))))) H := hP
        have hD : va_D (ft_A 23 ad) (ft_WS ad k (va_up (va_up (s_X6_dropFirst (va_up r (51 + 17 * i1 + 1) ((r (51 + 17 * i1 + 1)) - 1)) (51 + 17 * i1)) (51 + 17 * i1 + 4 + tn (s_X6_wishAt r (51 + 17 * i1) 0)) ((ft_ar (s_X6_dropFirst (va_up r (51 + 17 * i1 + 1) ((r (51 + 17 * i1 + 1)) - 1)) (51 + 17 * i1)) (51 + 17 * i1 + 4) 4 (tn (s_X6_wishAt r (51 + 17 * i1) 0))) - 1)) (51 + 17 * i1 + 0) (((va_up (s_X6_dropFirst (va_up r (51 + 17 * i1 + 1) ((r (51 + 17 * i1 + 1)) - 1)) (51 + 17 * i1)) (51 + 17 * i1 + 4 + tn (s_X6_wishAt r (51 + 17 * i1) 0)) ((ft_ar (s_X6_dropFirst (va_up r (51 + 17 * i1 + 1) ((r (51 + 17 * i1 + 1)) - 1)) (51 + 17 * i1)) (51 + 17 * i1 + 4) 4 (tn (s_X6_wishAt r (51 + 17 * i1) 0))) - 1)) (51 + 17 * i1 + 0)) + (ft_ar (va_up (s_X6_dropFirst (va_up r (51 + 17 * i1 + 1) ((r (51 + 17 * i1 + 1)) - 1)) (51 + 17 * i1)) (51 + 17 * i1 + 4 + tn (s_X6_wishAt r (51 + 17 * i1) 0)) ((ft_ar (s_X6_dropFirst (va_up r (51 + 17 * i1 + 1) ((r (51 + 17 * i1 + 1)) - 1)) (51 + 17 * i1)) (51 + 17 * i1 + 4) 4 (tn (s_X6_wishAt r (51 + 17 * i1) 0))) - 1)) (8) 4 (tn (s_X6_wishAt r (51 + 17 * i1) 0)))))) := hD
        refine lv_aload_n hx hb dX4_letWork_100 rfl (lv_at hl 1 rfl) ?_
        refine va_get (D := dC) (ci := 6) (v := .ref (ad 4)) (C := RX4) (T := TX4) (N := 12) hx hb hts (by decide +kernel) hown hK.1 hP 0 (ft_get' (by decide) rfl) rfl 3 (by decide) (hts (.fieldLink RX4 24 "FoodTruckRota$Square" "sold" "[I") (by decide +kernel)) (fun _ h9 => h9) rfl dX4_letWork_101 ?_
        refine lv_iload_n hx hb dX4_letWork_104 rfl (lv_at hl 0 rfl) ?_
        refine lv_dup2_11 hx hb dX4_letWork_105 rfl rfl ?_
        have h_106 : vp_in (s_X6_wishAt r (51 + 17 * i1) 0) 4 := by first | assumption | exact isTruck_in (by assumption) | exact isDish_in (by assumption)
        refine va_iald hx hb hK.1 hP 4 0 (ft_get' (by decide) rfl) rfl h_106 dX4_letWork_106 ?_
        refine lv_iconst (v := 1) hx hb dX4_letWork_107 (by decide) ?_
        refine lv_iadd hx hb dX4_letWork_108 ?_
        have h_109 : vp_in (s_X6_wishAt r (51 + 17 * i1) 0) 4 := by first | assumption | exact isTruck_in (by assumption) | exact isDish_in (by assumption)
        refine va_iast hx hb hK.1 hP hD hS 4 0 (ft_get' (by decide) rfl) rfl h_109 dX4_letWork_109 (fun H locs hP hD hS => ?_)
        have hP := ft_cast hP (ft_S_as (ft_tn h_109))
        have hD := ft_castD hD (ft_S_as (ft_tn h_109))
        have hP : va_P dC vwCl (ft_WS ad k (va_up (va_up (va_up (s_X6_dropFirst (va_up r (51 + 17 * i1 + 1) ((r (51 + 17 * i1 + 1)) - 1)) (51 + 17 * i1)) (51 + 17 * i1 + 4 + tn (s_X6_wishAt r (51 + 17 * i1) 0)) ((ft_ar (s_X6_dropFirst (va_up r (51 + 17 * i1 + 1) ((r (51 + 17 * i1 + 1)) - 1)) (51 + 17 * i1)) (51 + 17 * i1 + 4) 4 (tn (s_X6_wishAt r (51 + 17 * i1) 0))) - 1)) (51 + 17 * i1 + 0) (((va_up (s_X6_dropFirst (va_up r (51 + 17 * i1 + 1) ((r (51 + 17 * i1 + 1)) - 1)) (51 + 17 * i1)) (51 + 17 * i1 + 4 + tn (s_X6_wishAt r (51 + 17 * i1) 0)) ((ft_ar (s_X6_dropFirst (va_up r (51 + 17 * i1 + 1) ((r (51 + 17 * i1 + 1)) - 1)) (51 + 17 * i1)) (51 + 17 * i1 + 4) 4 (tn (s_X6_wishAt r (51 + 17 * i1) 0))) - 1)) (51 + 17 * i1 + 0)) + (ft_ar (va_up (s_X6_dropFirst (va_up r (51 + 17 * i1 + 1) ((r (51 + 17 * i1 + 1)) - 1)) (51 + 17 * i1)) (51 + 17 * i1 + 4 + tn (s_X6_wishAt r (51 + 17 * i1) 0)) ((ft_ar (s_X6_dropFirst (va_up r (51 + 17 * i1 + 1) ((r (51 + 17 * i1 + 1)) - 1)) (51 + 17 * i1)) (51 + 17 * i1 + 4) 4 (tn (s_X6_wishAt r (51 + 17 * i1) 0))) - 1)) (8) 4 (tn (s_X6_wishAt r (51 + 17 * i1) 0))))) (12 + tn (s_X6_wishAt r (51 + 17 * i1) 0)) ((ft_ar (va_up (va_up (s_X6_dropFirst (va_up r (51 + 17 * i1 + 1) ((r (51 + 17 * i1 + 1)) - 1)) (51 + 17 * i1)) (51 + 17 * i1 + 4 + tn (s_X6_wishAt r (51 + 17 * i1) 0)) ((ft_ar (s_X6_dropFirst (va_up r (51 + 17 * i1 + 1) ((r (51 + 17 * i1 + 1)) - 1)) (51 + 17 * i1)) (51 + 17 * i1 + 4) 4 (tn (s_X6_wishAt r (51 + 17 * i1) 0))) - 1)) (51 + 17 * i1 + 0) (((va_up (s_X6_dropFirst (va_up r (51 + 17 * i1 + 1) ((r (51 + 17 * i1 + 1)) - 1)) (51 + 17 * i1)) (51 + 17 * i1 + 4 + tn (s_X6_wishAt r (51 + 17 * i1) 0)) ((ft_ar (s_X6_dropFirst (va_up r (51 + 17 * i1 + 1) ((r (51 + 17 * i1 + 1)) - 1)) (51 + 17 * i1)) (51 + 17 * i1 + 4) 4 (tn (s_X6_wishAt r (51 + 17 * i1) 0))) - 1)) (51 + 17 * i1 + 0)) + (ft_ar (va_up (s_X6_dropFirst (va_up r (51 + 17 * i1 + 1) ((r (51 + 17 * i1 + 1)) - 1)) (51 + 17 * i1)) (51 + 17 * i1 + 4 + tn (s_X6_wishAt r (51 + 17 * i1) 0)) ((ft_ar (s_X6_dropFirst (va_up r (51 + 17 * i1 + 1) ((r (51 + 17 * i1 + 1)) - 1)) (51 + 17 * i1)) (51 + 17 * i1 + 4) 4 (tn (s_X6_wishAt r (51 + 17 * i1) 0))) - 1)) (8) 4 (tn (s_X6_wishAt r (51 + 17 * i1) 0))))) (12) 4 (tn (s_X6_wishAt r (51 + 17 * i1) 0))) + 1))) H := hP
        have hD : va_D (ft_A 23 ad) (ft_WS ad k (va_up (va_up (va_up (s_X6_dropFirst (va_up r (51 + 17 * i1 + 1) ((r (51 + 17 * i1 + 1)) - 1)) (51 + 17 * i1)) (51 + 17 * i1 + 4 + tn (s_X6_wishAt r (51 + 17 * i1) 0)) ((ft_ar (s_X6_dropFirst (va_up r (51 + 17 * i1 + 1) ((r (51 + 17 * i1 + 1)) - 1)) (51 + 17 * i1)) (51 + 17 * i1 + 4) 4 (tn (s_X6_wishAt r (51 + 17 * i1) 0))) - 1)) (51 + 17 * i1 + 0) (((va_up (s_X6_dropFirst (va_up r (51 + 17 * i1 + 1) ((r (51 + 17 * i1 + 1)) - 1)) (51 + 17 * i1)) (51 + 17 * i1 + 4 + tn (s_X6_wishAt r (51 + 17 * i1) 0)) ((ft_ar (s_X6_dropFirst (va_up r (51 + 17 * i1 + 1) ((r (51 + 17 * i1 + 1)) - 1)) (51 + 17 * i1)) (51 + 17 * i1 + 4) 4 (tn (s_X6_wishAt r (51 + 17 * i1) 0))) - 1)) (51 + 17 * i1 + 0)) + (ft_ar (va_up (s_X6_dropFirst (va_up r (51 + 17 * i1 + 1) ((r (51 + 17 * i1 + 1)) - 1)) (51 + 17 * i1)) (51 + 17 * i1 + 4 + tn (s_X6_wishAt r (51 + 17 * i1) 0)) ((ft_ar (s_X6_dropFirst (va_up r (51 + 17 * i1 + 1) ((r (51 + 17 * i1 + 1)) - 1)) (51 + 17 * i1)) (51 + 17 * i1 + 4) 4 (tn (s_X6_wishAt r (51 + 17 * i1) 0))) - 1)) (8) 4 (tn (s_X6_wishAt r (51 + 17 * i1) 0))))) (12 + tn (s_X6_wishAt r (51 + 17 * i1) 0)) ((ft_ar (va_up (va_up (s_X6_dropFirst (va_up r (51 + 17 * i1 + 1) ((r (51 + 17 * i1 + 1)) - 1)) (51 + 17 * i1)) (51 + 17 * i1 + 4 + tn (s_X6_wishAt r (51 + 17 * i1) 0)) ((ft_ar (s_X6_dropFirst (va_up r (51 + 17 * i1 + 1) ((r (51 + 17 * i1 + 1)) - 1)) (51 + 17 * i1)) (51 + 17 * i1 + 4) 4 (tn (s_X6_wishAt r (51 + 17 * i1) 0))) - 1)) (51 + 17 * i1 + 0) (((va_up (s_X6_dropFirst (va_up r (51 + 17 * i1 + 1) ((r (51 + 17 * i1 + 1)) - 1)) (51 + 17 * i1)) (51 + 17 * i1 + 4 + tn (s_X6_wishAt r (51 + 17 * i1) 0)) ((ft_ar (s_X6_dropFirst (va_up r (51 + 17 * i1 + 1) ((r (51 + 17 * i1 + 1)) - 1)) (51 + 17 * i1)) (51 + 17 * i1 + 4) 4 (tn (s_X6_wishAt r (51 + 17 * i1) 0))) - 1)) (51 + 17 * i1 + 0)) + (ft_ar (va_up (s_X6_dropFirst (va_up r (51 + 17 * i1 + 1) ((r (51 + 17 * i1 + 1)) - 1)) (51 + 17 * i1)) (51 + 17 * i1 + 4 + tn (s_X6_wishAt r (51 + 17 * i1) 0)) ((ft_ar (s_X6_dropFirst (va_up r (51 + 17 * i1 + 1) ((r (51 + 17 * i1 + 1)) - 1)) (51 + 17 * i1)) (51 + 17 * i1 + 4) 4 (tn (s_X6_wishAt r (51 + 17 * i1) 0))) - 1)) (8) 4 (tn (s_X6_wishAt r (51 + 17 * i1) 0))))) (12) 4 (tn (s_X6_wishAt r (51 + 17 * i1) 0))) + 1))) := hD
        refine lv_aload_n hx hb dX4_letWork_110 rfl (lv_at hl 1 rfl) ?_
        refine lv_dup hx hb dX4_letWork_111 rfl ?_
        refine va_get (D := dC) (ci := 6) (v := .int ((va_up (va_up (va_up (s_X6_dropFirst (va_up r (51 + 17 * i1 + 1) ((r (51 + 17 * i1 + 1)) - 1)) (51 + 17 * i1)) (51 + 17 * i1 + 4 + tn (s_X6_wishAt r (51 + 17 * i1) 0)) ((ft_ar (s_X6_dropFirst (va_up r (51 + 17 * i1 + 1) ((r (51 + 17 * i1 + 1)) - 1)) (51 + 17 * i1)) (51 + 17 * i1 + 4) 4 (tn (s_X6_wishAt r (51 + 17 * i1) 0))) - 1)) (51 + 17 * i1 + 0) (((va_up (s_X6_dropFirst (va_up r (51 + 17 * i1 + 1) ((r (51 + 17 * i1 + 1)) - 1)) (51 + 17 * i1)) (51 + 17 * i1 + 4 + tn (s_X6_wishAt r (51 + 17 * i1) 0)) ((ft_ar (s_X6_dropFirst (va_up r (51 + 17 * i1 + 1) ((r (51 + 17 * i1 + 1)) - 1)) (51 + 17 * i1)) (51 + 17 * i1 + 4) 4 (tn (s_X6_wishAt r (51 + 17 * i1) 0))) - 1)) (51 + 17 * i1 + 0)) + (ft_ar (va_up (s_X6_dropFirst (va_up r (51 + 17 * i1 + 1) ((r (51 + 17 * i1 + 1)) - 1)) (51 + 17 * i1)) (51 + 17 * i1 + 4 + tn (s_X6_wishAt r (51 + 17 * i1) 0)) ((ft_ar (s_X6_dropFirst (va_up r (51 + 17 * i1 + 1) ((r (51 + 17 * i1 + 1)) - 1)) (51 + 17 * i1)) (51 + 17 * i1 + 4) 4 (tn (s_X6_wishAt r (51 + 17 * i1) 0))) - 1)) (8) 4 (tn (s_X6_wishAt r (51 + 17 * i1) 0))))) (12 + tn (s_X6_wishAt r (51 + 17 * i1) 0)) ((ft_ar (va_up (va_up (s_X6_dropFirst (va_up r (51 + 17 * i1 + 1) ((r (51 + 17 * i1 + 1)) - 1)) (51 + 17 * i1)) (51 + 17 * i1 + 4 + tn (s_X6_wishAt r (51 + 17 * i1) 0)) ((ft_ar (s_X6_dropFirst (va_up r (51 + 17 * i1 + 1) ((r (51 + 17 * i1 + 1)) - 1)) (51 + 17 * i1)) (51 + 17 * i1 + 4) 4 (tn (s_X6_wishAt r (51 + 17 * i1) 0))) - 1)) (51 + 17 * i1 + 0) (((va_up (s_X6_dropFirst (va_up r (51 + 17 * i1 + 1) ((r (51 + 17 * i1 + 1)) - 1)) (51 + 17 * i1)) (51 + 17 * i1 + 4 + tn (s_X6_wishAt r (51 + 17 * i1) 0)) ((ft_ar (s_X6_dropFirst (va_up r (51 + 17 * i1 + 1) ((r (51 + 17 * i1 + 1)) - 1)) (51 + 17 * i1)) (51 + 17 * i1 + 4) 4 (tn (s_X6_wishAt r (51 + 17 * i1) 0))) - 1)) (51 + 17 * i1 + 0)) + (ft_ar (va_up (s_X6_dropFirst (va_up r (51 + 17 * i1 + 1) ((r (51 + 17 * i1 + 1)) - 1)) (51 + 17 * i1)) (51 + 17 * i1 + 4 + tn (s_X6_wishAt r (51 + 17 * i1) 0)) ((ft_ar (s_X6_dropFirst (va_up r (51 + 17 * i1 + 1) ((r (51 + 17 * i1 + 1)) - 1)) (51 + 17 * i1)) (51 + 17 * i1 + 4) 4 (tn (s_X6_wishAt r (51 + 17 * i1) 0))) - 1)) (8) 4 (tn (s_X6_wishAt r (51 + 17 * i1) 0))))) (12) 4 (tn (s_X6_wishAt r (51 + 17 * i1) 0))) + 1)) 5)) (C := RX4) (T := TX4) (N := 12) hx hb hts (by decide +kernel) hown hK.1 hP 0 (ft_get' (by decide) rfl) rfl 9 (by decide) (hts (.fieldLink RX4 60 "FoodTruckRota$Square" "served" "I") (by decide +kernel)) (fun _ h9 => h9) rfl dX4_letWork_112 ?_
        refine lv_iconst (v := 1) hx hb dX4_letWork_115 (by decide) ?_
        refine lv_iadd hx hb dX4_letWork_116 ?_
        refine va_put (D := dC) (ci := 6) (v := .int (((va_up (va_up (va_up (s_X6_dropFirst (va_up r (51 + 17 * i1 + 1) ((r (51 + 17 * i1 + 1)) - 1)) (51 + 17 * i1)) (51 + 17 * i1 + 4 + tn (s_X6_wishAt r (51 + 17 * i1) 0)) ((ft_ar (s_X6_dropFirst (va_up r (51 + 17 * i1 + 1) ((r (51 + 17 * i1 + 1)) - 1)) (51 + 17 * i1)) (51 + 17 * i1 + 4) 4 (tn (s_X6_wishAt r (51 + 17 * i1) 0))) - 1)) (51 + 17 * i1 + 0) (((va_up (s_X6_dropFirst (va_up r (51 + 17 * i1 + 1) ((r (51 + 17 * i1 + 1)) - 1)) (51 + 17 * i1)) (51 + 17 * i1 + 4 + tn (s_X6_wishAt r (51 + 17 * i1) 0)) ((ft_ar (s_X6_dropFirst (va_up r (51 + 17 * i1 + 1) ((r (51 + 17 * i1 + 1)) - 1)) (51 + 17 * i1)) (51 + 17 * i1 + 4) 4 (tn (s_X6_wishAt r (51 + 17 * i1) 0))) - 1)) (51 + 17 * i1 + 0)) + (ft_ar (va_up (s_X6_dropFirst (va_up r (51 + 17 * i1 + 1) ((r (51 + 17 * i1 + 1)) - 1)) (51 + 17 * i1)) (51 + 17 * i1 + 4 + tn (s_X6_wishAt r (51 + 17 * i1) 0)) ((ft_ar (s_X6_dropFirst (va_up r (51 + 17 * i1 + 1) ((r (51 + 17 * i1 + 1)) - 1)) (51 + 17 * i1)) (51 + 17 * i1 + 4) 4 (tn (s_X6_wishAt r (51 + 17 * i1) 0))) - 1)) (8) 4 (tn (s_X6_wishAt r (51 + 17 * i1) 0))))) (12 + tn (s_X6_wishAt r (51 + 17 * i1) 0)) ((ft_ar (va_up (va_up (s_X6_dropFirst (va_up r (51 + 17 * i1 + 1) ((r (51 + 17 * i1 + 1)) - 1)) (51 + 17 * i1)) (51 + 17 * i1 + 4 + tn (s_X6_wishAt r (51 + 17 * i1) 0)) ((ft_ar (s_X6_dropFirst (va_up r (51 + 17 * i1 + 1) ((r (51 + 17 * i1 + 1)) - 1)) (51 + 17 * i1)) (51 + 17 * i1 + 4) 4 (tn (s_X6_wishAt r (51 + 17 * i1) 0))) - 1)) (51 + 17 * i1 + 0) (((va_up (s_X6_dropFirst (va_up r (51 + 17 * i1 + 1) ((r (51 + 17 * i1 + 1)) - 1)) (51 + 17 * i1)) (51 + 17 * i1 + 4 + tn (s_X6_wishAt r (51 + 17 * i1) 0)) ((ft_ar (s_X6_dropFirst (va_up r (51 + 17 * i1 + 1) ((r (51 + 17 * i1 + 1)) - 1)) (51 + 17 * i1)) (51 + 17 * i1 + 4) 4 (tn (s_X6_wishAt r (51 + 17 * i1) 0))) - 1)) (51 + 17 * i1 + 0)) + (ft_ar (va_up (s_X6_dropFirst (va_up r (51 + 17 * i1 + 1) ((r (51 + 17 * i1 + 1)) - 1)) (51 + 17 * i1)) (51 + 17 * i1 + 4 + tn (s_X6_wishAt r (51 + 17 * i1) 0)) ((ft_ar (s_X6_dropFirst (va_up r (51 + 17 * i1 + 1) ((r (51 + 17 * i1 + 1)) - 1)) (51 + 17 * i1)) (51 + 17 * i1 + 4) 4 (tn (s_X6_wishAt r (51 + 17 * i1) 0))) - 1)) (8) 4 (tn (s_X6_wishAt r (51 + 17 * i1) 0))))) (12) 4 (tn (s_X6_wishAt r (51 + 17 * i1) 0))) + 1)) 5) + 1)) (ty := .int) (C := RX4) (T := TX4) (N := 12) hx hb hts (by decide +kernel) tyX4 tyX4_ok nmX4 hown hK.1 hP hD hS 0 (ft_get' (by decide) rfl) rfl 9 (by decide) (hts (.fieldLink RX4 60 "FoodTruckRota$Square" "served" "I") (by decide +kernel)) (fun _ h9 => h9) rfl (by decide +kernel) rfl rfl (Nat.le_of_ble_eq_true rfl) dX4_letWork_117 (fun H locs hP hD hS => ?_)
        have hP := ft_cast hP ft_S_p5
        have hD := ft_castD hD ft_S_p5
        have hP : va_P dC vwCl (ft_WS ad k (va_up (va_up (va_up (va_up (s_X6_dropFirst (va_up r (51 + 17 * i1 + 1) ((r (51 + 17 * i1 + 1)) - 1)) (51 + 17 * i1)) (51 + 17 * i1 + 4 + tn (s_X6_wishAt r (51 + 17 * i1) 0)) ((ft_ar (s_X6_dropFirst (va_up r (51 + 17 * i1 + 1) ((r (51 + 17 * i1 + 1)) - 1)) (51 + 17 * i1)) (51 + 17 * i1 + 4) 4 (tn (s_X6_wishAt r (51 + 17 * i1) 0))) - 1)) (51 + 17 * i1 + 0) (((va_up (s_X6_dropFirst (va_up r (51 + 17 * i1 + 1) ((r (51 + 17 * i1 + 1)) - 1)) (51 + 17 * i1)) (51 + 17 * i1 + 4 + tn (s_X6_wishAt r (51 + 17 * i1) 0)) ((ft_ar (s_X6_dropFirst (va_up r (51 + 17 * i1 + 1) ((r (51 + 17 * i1 + 1)) - 1)) (51 + 17 * i1)) (51 + 17 * i1 + 4) 4 (tn (s_X6_wishAt r (51 + 17 * i1) 0))) - 1)) (51 + 17 * i1 + 0)) + (ft_ar (va_up (s_X6_dropFirst (va_up r (51 + 17 * i1 + 1) ((r (51 + 17 * i1 + 1)) - 1)) (51 + 17 * i1)) (51 + 17 * i1 + 4 + tn (s_X6_wishAt r (51 + 17 * i1) 0)) ((ft_ar (s_X6_dropFirst (va_up r (51 + 17 * i1 + 1) ((r (51 + 17 * i1 + 1)) - 1)) (51 + 17 * i1)) (51 + 17 * i1 + 4) 4 (tn (s_X6_wishAt r (51 + 17 * i1) 0))) - 1)) (8) 4 (tn (s_X6_wishAt r (51 + 17 * i1) 0))))) (12 + tn (s_X6_wishAt r (51 + 17 * i1) 0)) ((ft_ar (va_up (va_up (s_X6_dropFirst (va_up r (51 + 17 * i1 + 1) ((r (51 + 17 * i1 + 1)) - 1)) (51 + 17 * i1)) (51 + 17 * i1 + 4 + tn (s_X6_wishAt r (51 + 17 * i1) 0)) ((ft_ar (s_X6_dropFirst (va_up r (51 + 17 * i1 + 1) ((r (51 + 17 * i1 + 1)) - 1)) (51 + 17 * i1)) (51 + 17 * i1 + 4) 4 (tn (s_X6_wishAt r (51 + 17 * i1) 0))) - 1)) (51 + 17 * i1 + 0) (((va_up (s_X6_dropFirst (va_up r (51 + 17 * i1 + 1) ((r (51 + 17 * i1 + 1)) - 1)) (51 + 17 * i1)) (51 + 17 * i1 + 4 + tn (s_X6_wishAt r (51 + 17 * i1) 0)) ((ft_ar (s_X6_dropFirst (va_up r (51 + 17 * i1 + 1) ((r (51 + 17 * i1 + 1)) - 1)) (51 + 17 * i1)) (51 + 17 * i1 + 4) 4 (tn (s_X6_wishAt r (51 + 17 * i1) 0))) - 1)) (51 + 17 * i1 + 0)) + (ft_ar (va_up (s_X6_dropFirst (va_up r (51 + 17 * i1 + 1) ((r (51 + 17 * i1 + 1)) - 1)) (51 + 17 * i1)) (51 + 17 * i1 + 4 + tn (s_X6_wishAt r (51 + 17 * i1) 0)) ((ft_ar (s_X6_dropFirst (va_up r (51 + 17 * i1 + 1) ((r (51 + 17 * i1 + 1)) - 1)) (51 + 17 * i1)) (51 + 17 * i1 + 4) 4 (tn (s_X6_wishAt r (51 + 17 * i1) 0))) - 1)) (8) 4 (tn (s_X6_wishAt r (51 + 17 * i1) 0))))) (12) 4 (tn (s_X6_wishAt r (51 + 17 * i1) 0))) + 1)) 5 (((va_up (va_up (va_up (s_X6_dropFirst (va_up r (51 + 17 * i1 + 1) ((r (51 + 17 * i1 + 1)) - 1)) (51 + 17 * i1)) (51 + 17 * i1 + 4 + tn (s_X6_wishAt r (51 + 17 * i1) 0)) ((ft_ar (s_X6_dropFirst (va_up r (51 + 17 * i1 + 1) ((r (51 + 17 * i1 + 1)) - 1)) (51 + 17 * i1)) (51 + 17 * i1 + 4) 4 (tn (s_X6_wishAt r (51 + 17 * i1) 0))) - 1)) (51 + 17 * i1 + 0) (((va_up (s_X6_dropFirst (va_up r (51 + 17 * i1 + 1) ((r (51 + 17 * i1 + 1)) - 1)) (51 + 17 * i1)) (51 + 17 * i1 + 4 + tn (s_X6_wishAt r (51 + 17 * i1) 0)) ((ft_ar (s_X6_dropFirst (va_up r (51 + 17 * i1 + 1) ((r (51 + 17 * i1 + 1)) - 1)) (51 + 17 * i1)) (51 + 17 * i1 + 4) 4 (tn (s_X6_wishAt r (51 + 17 * i1) 0))) - 1)) (51 + 17 * i1 + 0)) + (ft_ar (va_up (s_X6_dropFirst (va_up r (51 + 17 * i1 + 1) ((r (51 + 17 * i1 + 1)) - 1)) (51 + 17 * i1)) (51 + 17 * i1 + 4 + tn (s_X6_wishAt r (51 + 17 * i1) 0)) ((ft_ar (s_X6_dropFirst (va_up r (51 + 17 * i1 + 1) ((r (51 + 17 * i1 + 1)) - 1)) (51 + 17 * i1)) (51 + 17 * i1 + 4) 4 (tn (s_X6_wishAt r (51 + 17 * i1) 0))) - 1)) (8) 4 (tn (s_X6_wishAt r (51 + 17 * i1) 0))))) (12 + tn (s_X6_wishAt r (51 + 17 * i1) 0)) ((ft_ar (va_up (va_up (s_X6_dropFirst (va_up r (51 + 17 * i1 + 1) ((r (51 + 17 * i1 + 1)) - 1)) (51 + 17 * i1)) (51 + 17 * i1 + 4 + tn (s_X6_wishAt r (51 + 17 * i1) 0)) ((ft_ar (s_X6_dropFirst (va_up r (51 + 17 * i1 + 1) ((r (51 + 17 * i1 + 1)) - 1)) (51 + 17 * i1)) (51 + 17 * i1 + 4) 4 (tn (s_X6_wishAt r (51 + 17 * i1) 0))) - 1)) (51 + 17 * i1 + 0) (((va_up (s_X6_dropFirst (va_up r (51 + 17 * i1 + 1) ((r (51 + 17 * i1 + 1)) - 1)) (51 + 17 * i1)) (51 + 17 * i1 + 4 + tn (s_X6_wishAt r (51 + 17 * i1) 0)) ((ft_ar (s_X6_dropFirst (va_up r (51 + 17 * i1 + 1) ((r (51 + 17 * i1 + 1)) - 1)) (51 + 17 * i1)) (51 + 17 * i1 + 4) 4 (tn (s_X6_wishAt r (51 + 17 * i1) 0))) - 1)) (51 + 17 * i1 + 0)) + (ft_ar (va_up (s_X6_dropFirst (va_up r (51 + 17 * i1 + 1) ((r (51 + 17 * i1 + 1)) - 1)) (51 + 17 * i1)) (51 + 17 * i1 + 4 + tn (s_X6_wishAt r (51 + 17 * i1) 0)) ((ft_ar (s_X6_dropFirst (va_up r (51 + 17 * i1 + 1) ((r (51 + 17 * i1 + 1)) - 1)) (51 + 17 * i1)) (51 + 17 * i1 + 4) 4 (tn (s_X6_wishAt r (51 + 17 * i1) 0))) - 1)) (8) 4 (tn (s_X6_wishAt r (51 + 17 * i1) 0))))) (12) 4 (tn (s_X6_wishAt r (51 + 17 * i1) 0))) + 1)) 5) + 1))) H := hP
        have hD : va_D (ft_A 23 ad) (ft_WS ad k (va_up (va_up (va_up (va_up (s_X6_dropFirst (va_up r (51 + 17 * i1 + 1) ((r (51 + 17 * i1 + 1)) - 1)) (51 + 17 * i1)) (51 + 17 * i1 + 4 + tn (s_X6_wishAt r (51 + 17 * i1) 0)) ((ft_ar (s_X6_dropFirst (va_up r (51 + 17 * i1 + 1) ((r (51 + 17 * i1 + 1)) - 1)) (51 + 17 * i1)) (51 + 17 * i1 + 4) 4 (tn (s_X6_wishAt r (51 + 17 * i1) 0))) - 1)) (51 + 17 * i1 + 0) (((va_up (s_X6_dropFirst (va_up r (51 + 17 * i1 + 1) ((r (51 + 17 * i1 + 1)) - 1)) (51 + 17 * i1)) (51 + 17 * i1 + 4 + tn (s_X6_wishAt r (51 + 17 * i1) 0)) ((ft_ar (s_X6_dropFirst (va_up r (51 + 17 * i1 + 1) ((r (51 + 17 * i1 + 1)) - 1)) (51 + 17 * i1)) (51 + 17 * i1 + 4) 4 (tn (s_X6_wishAt r (51 + 17 * i1) 0))) - 1)) (51 + 17 * i1 + 0)) + (ft_ar (va_up (s_X6_dropFirst (va_up r (51 + 17 * i1 + 1) ((r (51 + 17 * i1 + 1)) - 1)) (51 + 17 * i1)) (51 + 17 * i1 + 4 + tn (s_X6_wishAt r (51 + 17 * i1) 0)) ((ft_ar (s_X6_dropFirst (va_up r (51 + 17 * i1 + 1) ((r (51 + 17 * i1 + 1)) - 1)) (51 + 17 * i1)) (51 + 17 * i1 + 4) 4 (tn (s_X6_wishAt r (51 + 17 * i1) 0))) - 1)) (8) 4 (tn (s_X6_wishAt r (51 + 17 * i1) 0))))) (12 + tn (s_X6_wishAt r (51 + 17 * i1) 0)) ((ft_ar (va_up (va_up (s_X6_dropFirst (va_up r (51 + 17 * i1 + 1) ((r (51 + 17 * i1 + 1)) - 1)) (51 + 17 * i1)) (51 + 17 * i1 + 4 + tn (s_X6_wishAt r (51 + 17 * i1) 0)) ((ft_ar (s_X6_dropFirst (va_up r (51 + 17 * i1 + 1) ((r (51 + 17 * i1 + 1)) - 1)) (51 + 17 * i1)) (51 + 17 * i1 + 4) 4 (tn (s_X6_wishAt r (51 + 17 * i1) 0))) - 1)) (51 + 17 * i1 + 0) (((va_up (s_X6_dropFirst (va_up r (51 + 17 * i1 + 1) ((r (51 + 17 * i1 + 1)) - 1)) (51 + 17 * i1)) (51 + 17 * i1 + 4 + tn (s_X6_wishAt r (51 + 17 * i1) 0)) ((ft_ar (s_X6_dropFirst (va_up r (51 + 17 * i1 + 1) ((r (51 + 17 * i1 + 1)) - 1)) (51 + 17 * i1)) (51 + 17 * i1 + 4) 4 (tn (s_X6_wishAt r (51 + 17 * i1) 0))) - 1)) (51 + 17 * i1 + 0)) + (ft_ar (va_up (s_X6_dropFirst (va_up r (51 + 17 * i1 + 1) ((r (51 + 17 * i1 + 1)) - 1)) (51 + 17 * i1)) (51 + 17 * i1 + 4 + tn (s_X6_wishAt r (51 + 17 * i1) 0)) ((ft_ar (s_X6_dropFirst (va_up r (51 + 17 * i1 + 1) ((r (51 + 17 * i1 + 1)) - 1)) (51 + 17 * i1)) (51 + 17 * i1 + 4) 4 (tn (s_X6_wishAt r (51 + 17 * i1) 0))) - 1)) (8) 4 (tn (s_X6_wishAt r (51 + 17 * i1) 0))))) (12) 4 (tn (s_X6_wishAt r (51 + 17 * i1) 0))) + 1)) 5 (((va_up (va_up (va_up (s_X6_dropFirst (va_up r (51 + 17 * i1 + 1) ((r (51 + 17 * i1 + 1)) - 1)) (51 + 17 * i1)) (51 + 17 * i1 + 4 + tn (s_X6_wishAt r (51 + 17 * i1) 0)) ((ft_ar (s_X6_dropFirst (va_up r (51 + 17 * i1 + 1) ((r (51 + 17 * i1 + 1)) - 1)) (51 + 17 * i1)) (51 + 17 * i1 + 4) 4 (tn (s_X6_wishAt r (51 + 17 * i1) 0))) - 1)) (51 + 17 * i1 + 0) (((va_up (s_X6_dropFirst (va_up r (51 + 17 * i1 + 1) ((r (51 + 17 * i1 + 1)) - 1)) (51 + 17 * i1)) (51 + 17 * i1 + 4 + tn (s_X6_wishAt r (51 + 17 * i1) 0)) ((ft_ar (s_X6_dropFirst (va_up r (51 + 17 * i1 + 1) ((r (51 + 17 * i1 + 1)) - 1)) (51 + 17 * i1)) (51 + 17 * i1 + 4) 4 (tn (s_X6_wishAt r (51 + 17 * i1) 0))) - 1)) (51 + 17 * i1 + 0)) + (ft_ar (va_up (s_X6_dropFirst (va_up r (51 + 17 * i1 + 1) ((r (51 + 17 * i1 + 1)) - 1)) (51 + 17 * i1)) (51 + 17 * i1 + 4 + tn (s_X6_wishAt r (51 + 17 * i1) 0)) ((ft_ar (s_X6_dropFirst (va_up r (51 + 17 * i1 + 1) ((r (51 + 17 * i1 + 1)) - 1)) (51 + 17 * i1)) (51 + 17 * i1 + 4) 4 (tn (s_X6_wishAt r (51 + 17 * i1) 0))) - 1)) (8) 4 (tn (s_X6_wishAt r (51 + 17 * i1) 0))))) (12 + tn (s_X6_wishAt r (51 + 17 * i1) 0)) ((ft_ar (va_up (va_up (s_X6_dropFirst (va_up r (51 + 17 * i1 + 1) ((r (51 + 17 * i1 + 1)) - 1)) (51 + 17 * i1)) (51 + 17 * i1 + 4 + tn (s_X6_wishAt r (51 + 17 * i1) 0)) ((ft_ar (s_X6_dropFirst (va_up r (51 + 17 * i1 + 1) ((r (51 + 17 * i1 + 1)) - 1)) (51 + 17 * i1)) (51 + 17 * i1 + 4) 4 (tn (s_X6_wishAt r (51 + 17 * i1) 0))) - 1)) (51 + 17 * i1 + 0) (((va_up (s_X6_dropFirst (va_up r (51 + 17 * i1 + 1) ((r (51 + 17 * i1 + 1)) - 1)) (51 + 17 * i1)) (51 + 17 * i1 + 4 + tn (s_X6_wishAt r (51 + 17 * i1) 0)) ((ft_ar (s_X6_dropFirst (va_up r (51 + 17 * i1 + 1) ((r (51 + 17 * i1 + 1)) - 1)) (51 + 17 * i1)) (51 + 17 * i1 + 4) 4 (tn (s_X6_wishAt r (51 + 17 * i1) 0))) - 1)) (51 + 17 * i1 + 0)) + (ft_ar (va_up (s_X6_dropFirst (va_up r (51 + 17 * i1 + 1) ((r (51 + 17 * i1 + 1)) - 1)) (51 + 17 * i1)) (51 + 17 * i1 + 4 + tn (s_X6_wishAt r (51 + 17 * i1) 0)) ((ft_ar (s_X6_dropFirst (va_up r (51 + 17 * i1 + 1) ((r (51 + 17 * i1 + 1)) - 1)) (51 + 17 * i1)) (51 + 17 * i1 + 4) 4 (tn (s_X6_wishAt r (51 + 17 * i1) 0))) - 1)) (8) 4 (tn (s_X6_wishAt r (51 + 17 * i1) 0))))) (12) 4 (tn (s_X6_wishAt r (51 + 17 * i1) 0))) + 1)) 5) + 1))) := hD
        exact W.vret hx hb hr (fun t ht hW => ⟨⟨(va_up (va_up (va_up (va_up (s_X6_dropFirst (va_up r (51 + 17 * i1 + 1) ((r (51 + 17 * i1 + 1)) - 1)) (51 + 17 * i1)) (51 + 17 * i1 + 4 + tn (s_X6_wishAt r (51 + 17 * i1) 0)) ((ft_ar (s_X6_dropFirst (va_up r (51 + 17 * i1 + 1) ((r (51 + 17 * i1 + 1)) - 1)) (51 + 17 * i1)) (51 + 17 * i1 + 4) 4 (tn (s_X6_wishAt r (51 + 17 * i1) 0))) - 1)) (51 + 17 * i1 + 0) (((va_up (s_X6_dropFirst (va_up r (51 + 17 * i1 + 1) ((r (51 + 17 * i1 + 1)) - 1)) (51 + 17 * i1)) (51 + 17 * i1 + 4 + tn (s_X6_wishAt r (51 + 17 * i1) 0)) ((ft_ar (s_X6_dropFirst (va_up r (51 + 17 * i1 + 1) ((r (51 + 17 * i1 + 1)) - 1)) (51 + 17 * i1)) (51 + 17 * i1 + 4) 4 (tn (s_X6_wishAt r (51 + 17 * i1) 0))) - 1)) (51 + 17 * i1 + 0)) + (ft_ar (va_up (s_X6_dropFirst (va_up r (51 + 17 * i1 + 1) ((r (51 + 17 * i1 + 1)) - 1)) (51 + 17 * i1)) (51 + 17 * i1 + 4 + tn (s_X6_wishAt r (51 + 17 * i1) 0)) ((ft_ar (s_X6_dropFirst (va_up r (51 + 17 * i1 + 1) ((r (51 + 17 * i1 + 1)) - 1)) (51 + 17 * i1)) (51 + 17 * i1 + 4) 4 (tn (s_X6_wishAt r (51 + 17 * i1) 0))) - 1)) (8) 4 (tn (s_X6_wishAt r (51 + 17 * i1) 0))))) (12 + tn (s_X6_wishAt r (51 + 17 * i1) 0)) ((ft_ar (va_up (va_up (s_X6_dropFirst (va_up r (51 + 17 * i1 + 1) ((r (51 + 17 * i1 + 1)) - 1)) (51 + 17 * i1)) (51 + 17 * i1 + 4 + tn (s_X6_wishAt r (51 + 17 * i1) 0)) ((ft_ar (s_X6_dropFirst (va_up r (51 + 17 * i1 + 1) ((r (51 + 17 * i1 + 1)) - 1)) (51 + 17 * i1)) (51 + 17 * i1 + 4) 4 (tn (s_X6_wishAt r (51 + 17 * i1) 0))) - 1)) (51 + 17 * i1 + 0) (((va_up (s_X6_dropFirst (va_up r (51 + 17 * i1 + 1) ((r (51 + 17 * i1 + 1)) - 1)) (51 + 17 * i1)) (51 + 17 * i1 + 4 + tn (s_X6_wishAt r (51 + 17 * i1) 0)) ((ft_ar (s_X6_dropFirst (va_up r (51 + 17 * i1 + 1) ((r (51 + 17 * i1 + 1)) - 1)) (51 + 17 * i1)) (51 + 17 * i1 + 4) 4 (tn (s_X6_wishAt r (51 + 17 * i1) 0))) - 1)) (51 + 17 * i1 + 0)) + (ft_ar (va_up (s_X6_dropFirst (va_up r (51 + 17 * i1 + 1) ((r (51 + 17 * i1 + 1)) - 1)) (51 + 17 * i1)) (51 + 17 * i1 + 4 + tn (s_X6_wishAt r (51 + 17 * i1) 0)) ((ft_ar (s_X6_dropFirst (va_up r (51 + 17 * i1 + 1) ((r (51 + 17 * i1 + 1)) - 1)) (51 + 17 * i1)) (51 + 17 * i1 + 4) 4 (tn (s_X6_wishAt r (51 + 17 * i1) 0))) - 1)) (8) 4 (tn (s_X6_wishAt r (51 + 17 * i1) 0))))) (12) 4 (tn (s_X6_wishAt r (51 + 17 * i1) 0))) + 1)) 5 (((va_up (va_up (va_up (s_X6_dropFirst (va_up r (51 + 17 * i1 + 1) ((r (51 + 17 * i1 + 1)) - 1)) (51 + 17 * i1)) (51 + 17 * i1 + 4 + tn (s_X6_wishAt r (51 + 17 * i1) 0)) ((ft_ar (s_X6_dropFirst (va_up r (51 + 17 * i1 + 1) ((r (51 + 17 * i1 + 1)) - 1)) (51 + 17 * i1)) (51 + 17 * i1 + 4) 4 (tn (s_X6_wishAt r (51 + 17 * i1) 0))) - 1)) (51 + 17 * i1 + 0) (((va_up (s_X6_dropFirst (va_up r (51 + 17 * i1 + 1) ((r (51 + 17 * i1 + 1)) - 1)) (51 + 17 * i1)) (51 + 17 * i1 + 4 + tn (s_X6_wishAt r (51 + 17 * i1) 0)) ((ft_ar (s_X6_dropFirst (va_up r (51 + 17 * i1 + 1) ((r (51 + 17 * i1 + 1)) - 1)) (51 + 17 * i1)) (51 + 17 * i1 + 4) 4 (tn (s_X6_wishAt r (51 + 17 * i1) 0))) - 1)) (51 + 17 * i1 + 0)) + (ft_ar (va_up (s_X6_dropFirst (va_up r (51 + 17 * i1 + 1) ((r (51 + 17 * i1 + 1)) - 1)) (51 + 17 * i1)) (51 + 17 * i1 + 4 + tn (s_X6_wishAt r (51 + 17 * i1) 0)) ((ft_ar (s_X6_dropFirst (va_up r (51 + 17 * i1 + 1) ((r (51 + 17 * i1 + 1)) - 1)) (51 + 17 * i1)) (51 + 17 * i1 + 4) 4 (tn (s_X6_wishAt r (51 + 17 * i1) 0))) - 1)) (8) 4 (tn (s_X6_wishAt r (51 + 17 * i1) 0))))) (12 + tn (s_X6_wishAt r (51 + 17 * i1) 0)) ((ft_ar (va_up (va_up (s_X6_dropFirst (va_up r (51 + 17 * i1 + 1) ((r (51 + 17 * i1 + 1)) - 1)) (51 + 17 * i1)) (51 + 17 * i1 + 4 + tn (s_X6_wishAt r (51 + 17 * i1) 0)) ((ft_ar (s_X6_dropFirst (va_up r (51 + 17 * i1 + 1) ((r (51 + 17 * i1 + 1)) - 1)) (51 + 17 * i1)) (51 + 17 * i1 + 4) 4 (tn (s_X6_wishAt r (51 + 17 * i1) 0))) - 1)) (51 + 17 * i1 + 0) (((va_up (s_X6_dropFirst (va_up r (51 + 17 * i1 + 1) ((r (51 + 17 * i1 + 1)) - 1)) (51 + 17 * i1)) (51 + 17 * i1 + 4 + tn (s_X6_wishAt r (51 + 17 * i1) 0)) ((ft_ar (s_X6_dropFirst (va_up r (51 + 17 * i1 + 1) ((r (51 + 17 * i1 + 1)) - 1)) (51 + 17 * i1)) (51 + 17 * i1 + 4) 4 (tn (s_X6_wishAt r (51 + 17 * i1) 0))) - 1)) (51 + 17 * i1 + 0)) + (ft_ar (va_up (s_X6_dropFirst (va_up r (51 + 17 * i1 + 1) ((r (51 + 17 * i1 + 1)) - 1)) (51 + 17 * i1)) (51 + 17 * i1 + 4 + tn (s_X6_wishAt r (51 + 17 * i1) 0)) ((ft_ar (s_X6_dropFirst (va_up r (51 + 17 * i1 + 1) ((r (51 + 17 * i1 + 1)) - 1)) (51 + 17 * i1)) (51 + 17 * i1 + 4) 4 (tn (s_X6_wishAt r (51 + 17 * i1) 0))) - 1)) (8) 4 (tn (s_X6_wishAt r (51 + 17 * i1) 0))))) (12) 4 (tn (s_X6_wishAt r (51 + 17 * i1) 0))) + 1)) 5) + 1)), rfl, hsp, ft_heap ht hP⟩, hS.F ht⟩) hS.2.2 dX4_letWork_120
      · replace hsp := (if_neg c_67).symm.trans hsp
        exact W.vret hx hb hr (fun t ht hW => ⟨⟨(va_up r (51 + 17 * i1 + 1) ((r (51 + 17 * i1 + 1)) - 1)), rfl, hsp, ft_heap ht hP⟩, hS.F ht⟩) hS.2.2 dX4_letWork_70
    · replace hsp := (if_pos c_18).symm.trans hsp
      refine lv_aload_n hx hb dX4_letWork_21 rfl (lv_at hl 2 rfl) ?_
      refine va_getN (D := dC) (ci := 8) (v := .ref (ft_at ad i1 1)) (C := RX6) (T := TX6) (N := 6) hx hb hts (by decide +kernel) hown hK.1 (ft_S_P hP hi1) 0 (ft_get' (by decide) rfl) rfl 0 (by decide) (ft_nl hK.2 0 rfl) (fun _ h9 => h9) rfl dX4_letWork_22 ?_
      refine lv_iload_n hx hb dX4_letWork_25 rfl (lv_at hl 0 rfl) ?_
      have h_26 : vp_in (s_X6_wishAt r (51 + 17 * i1) 0) 4 := by first | assumption | exact isTruck_in (by assumption) | exact isDish_in (by assumption)
      refine va_iald hx hb hK.1 (ft_S_P hP hi1) 1 0 (ft_get' (by decide) rfl) rfl h_26 dX4_letWork_26 ?_
      refine lv_if_ne (tgt := 45) hx hb dX4_letWork_27 (by decide) (fun c_27 => ?_) (fun c_27 => ?_)
      · replace hsp := (if_neg c_27).symm.trans hsp
        refine lv_aload_n hx hb dX4_letWork_45 rfl (lv_at hl 2 rfl) ?_
        refine lv_iload_n hx hb dX4_letWork_46 rfl (lv_at hl 0 rfl) ?_
        refine vp_callSi (va_Run.run (va_runSN (As := [.int ((s_X6_wishAt r (51 + 17 * i1) 0))]) (rest := [.ref (ft_at ad i1 0)]) ⟨hx, hb, hml, hown, hts⟩ (c_X7_minutesFor l (s_X6_wishAt r (51 + 17 * i1) 0)) ⟨va_cnB 1 hts ggX4_letWork_X7_minutesFor rfl rfl rfl (ft_nm hK.2 6 rfl) (hts (.initialized RX7) (by decide +kernel)) (by decide +kernel) ⟨Nat.le_of_ble_eq_true rfl, Nat.le_of_ble_eq_true rfl⟩, hts (.static yX7_minutesFor) (by decide +kernel), trivial⟩ ft_preSn rfl rfl hl.1 rfl (lv_room (Nat.le_of_ble_eq_true rfl)) dX4_letWork_47 ⟨Nat.le_of_ble_eq_true rfl, Nat.le_of_ble_eq_true rfl⟩)) (fun z hz => ?_)
        subst hz
        refine va_putN (D := dC) (ci := 8) (v := .int ((s_X7_minutesFor (s_X6_wishAt r (51 + 17 * i1) 0)))) (ty := .int) (C := RX6) (T := TX6) (N := 6) hx hb hts (by decide +kernel) tyX6 tyX6_ok nmX6 hown hK.1 hP hD hS (5 + 3 * i1 + 0) (ft_get' (by have := hi1; omega) (ft_S_T (by decide))) rfl 3 (by decide) (ft_nl hK.2 4 rfl) (fun _ h9 => h9) rfl (by decide +kernel) rfl rfl (Nat.le_of_ble_eq_true rfl) dX4_letWork_50 (fun H locs hP hD hS => ?_)
        have hP := ft_cast hP (ft_S_upT (i := i1) (x := 0) (r := r) (by decide) ft_T_p1 (ft_up_out (by omega) (by omega)))
        have hD := ft_castD hD (ft_S_upT (i := i1) (x := 0) (r := r) (by decide) ft_T_p1 (ft_up_out (by omega) (by omega)))
        have hP : va_P dC vwCl (ft_WS ad k (va_up r (51 + 17 * i1 + 1) (s_X7_minutesFor (s_X6_wishAt r (51 + 17 * i1) 0)))) H := hP
        have hD : va_D (ft_A 23 ad) (ft_WS ad k (va_up r (51 + 17 * i1 + 1) (s_X7_minutesFor (s_X6_wishAt r (51 + 17 * i1) 0)))) := hD
        refine lv_aload_n hx hb dX4_letWork_53 rfl (lv_at hl 2 rfl) ?_
        refine lv_dup hx hb dX4_letWork_54 rfl ?_
        refine va_getN (D := dC) (ci := 8) (v := .int ((va_up r (51 + 17 * i1 + 1) (s_X7_minutesFor (s_X6_wishAt r (51 + 17 * i1) 0))) (51 + 17 * i1 + 1))) (C := RX6) (T := TX6) (N := 6) hx hb hts (by decide +kernel) hown hK.1 (ft_S_P hP hi1) 0 (ft_get' (by decide) rfl) rfl 3 (by decide) (ft_nl hK.2 4 rfl) (fun _ h9 => h9) rfl dX4_letWork_55 ?_
        refine lv_iconst (v := 1) hx hb dX4_letWork_58 (by decide) ?_
        refine lv_isub hx hb dX4_letWork_59 ?_
        refine va_putN (D := dC) (ci := 8) (v := .int (((va_up r (51 + 17 * i1 + 1) (s_X7_minutesFor (s_X6_wishAt r (51 + 17 * i1) 0))) (51 + 17 * i1 + 1)) - 1)) (ty := .int) (C := RX6) (T := TX6) (N := 6) hx hb hts (by decide +kernel) tyX6 tyX6_ok nmX6 hown hK.1 hP hD hS (5 + 3 * i1 + 0) (ft_get' (by have := hi1; omega) (ft_S_T (by decide))) rfl 3 (by decide) (ft_nl hK.2 4 rfl) (fun _ h9 => h9) rfl (by decide +kernel) rfl rfl (Nat.le_of_ble_eq_true rfl) dX4_letWork_60 (fun H locs hP hD hS => ?_)
        have hP := ft_cast hP (ft_S_upT (i := i1) (x := 0) (r := (va_up r (51 + 17 * i1 + 1) (s_X7_minutesFor (s_X6_wishAt r (51 + 17 * i1) 0)))) (by decide) ft_T_p1 (ft_up_out (by omega) (by omega)))
        have hD := ft_castD hD (ft_S_upT (i := i1) (x := 0) (r := (va_up r (51 + 17 * i1 + 1) (s_X7_minutesFor (s_X6_wishAt r (51 + 17 * i1) 0)))) (by decide) ft_T_p1 (ft_up_out (by omega) (by omega)))
        have hP : va_P dC vwCl (ft_WS ad k (va_up (va_up r (51 + 17 * i1 + 1) (s_X7_minutesFor (s_X6_wishAt r (51 + 17 * i1) 0))) (51 + 17 * i1 + 1) (((va_up r (51 + 17 * i1 + 1) (s_X7_minutesFor (s_X6_wishAt r (51 + 17 * i1) 0))) (51 + 17 * i1 + 1)) - 1))) H := hP
        have hD : va_D (ft_A 23 ad) (ft_WS ad k (va_up (va_up r (51 + 17 * i1 + 1) (s_X7_minutesFor (s_X6_wishAt r (51 + 17 * i1) 0))) (51 + 17 * i1 + 1) (((va_up r (51 + 17 * i1 + 1) (s_X7_minutesFor (s_X6_wishAt r (51 + 17 * i1) 0))) (51 + 17 * i1 + 1)) - 1))) := hD
        refine lv_aload_n hx hb dX4_letWork_63 rfl (lv_at hl 2 rfl) ?_
        refine va_getN (D := dC) (ci := 8) (v := .int ((va_up (va_up r (51 + 17 * i1 + 1) (s_X7_minutesFor (s_X6_wishAt r (51 + 17 * i1) 0))) (51 + 17 * i1 + 1) (((va_up r (51 + 17 * i1 + 1) (s_X7_minutesFor (s_X6_wishAt r (51 + 17 * i1) 0))) (51 + 17 * i1 + 1)) - 1)) (51 + 17 * i1 + 1))) (C := RX6) (T := TX6) (N := 6) hx hb hts (by decide +kernel) hown hK.1 (ft_S_P hP hi1) 0 (ft_get' (by decide) rfl) rfl 3 (by decide) (ft_nl hK.2 4 rfl) (fun _ h9 => h9) rfl dX4_letWork_64 ?_
        refine lv_if_le (tgt := 71) hx hb dX4_letWork_67 (by decide) (fun c_67 => ?_) (fun c_67 => ?_)
        · replace hsp := (if_pos c_67).symm.trans hsp
          refine lv_aload_n hx hb dX4_letWork_71 rfl (lv_at hl 2 rfl) ?_
          refine va_callv (va_runV (As := []) (rest := []) ⟨hx, hb, hml, hown, hts⟩ (c_X6_dropFirst l dC (ft_at ad i1) k (va_up (va_up r (51 + 17 * i1 + 1) (s_X7_minutesFor (s_X6_wishAt r (51 + 17 * i1) 0))) (51 + 17 * i1 + 1) (((va_up r (51 + 17 * i1 + 1) (s_X7_minutesFor (s_X6_wishAt r (51 + 17 * i1) 0))) (51 + 17 * i1 + 1)) - 1)) (51 + 17 * i1)) (cwV 0 hts gX4_letWork_X6_dropFirst rfl rfl rfl (by decide +kernel) ⟨Nat.le_of_ble_eq_true rfl, Nat.le_of_ble_eq_true rfl⟩) (ft_preVd hK (ft_S_P hP hi1) (ft_S_D hD hi1) (ci := 8) rfl (ft_get' (by decide) rfl)) rfl rfl hl.1 rfl (lv_room (Nat.le_of_ble_eq_true rfl)) dX4_letWork_72 ⟨Nat.le_of_ble_eq_true rfl, Nat.le_of_ble_eq_true rfl⟩) hS (fun q _ h => ft_S_A hD hi1 q h) (fun q h => ft_S_A hD hi1 q h) (fun u t H1 locs ht hvm hw hB hz1 hk1 hS => ?_)
          subst hw
          rw [ht] at hB
          have hP : va_P dC vwCl (ft_WS ad k (s_X6_dropFirst (va_up (va_up r (51 + 17 * i1 + 1) (s_X7_minutesFor (s_X6_wishAt r (51 + 17 * i1) 0))) (51 + 17 * i1 + 1) (((va_up r (51 + 17 * i1 + 1) (s_X7_minutesFor (s_X6_wishAt r (51 + 17 * i1) 0))) (51 + 17 * i1 + 1)) - 1)) (51 + 17 * i1))) H1 := ft_S_join hP hD hi1 hk1 hB (o_X6_dropFirst _ _)
          have hD : va_D (ft_A 23 ad) (ft_WS ad k (s_X6_dropFirst (va_up (va_up r (51 + 17 * i1 + 1) (s_X7_minutesFor (s_X6_wishAt r (51 + 17 * i1) 0))) (51 + 17 * i1 + 1) (((va_up r (51 + 17 * i1 + 1) (s_X7_minutesFor (s_X6_wishAt r (51 + 17 * i1) 0))) (51 + 17 * i1 + 1)) - 1)) (51 + 17 * i1))) := ft_D_va hD _
          generalize H1 = H at hP hS ⊢
          refine lv_aload_n hx hb dX4_letWork_75 rfl (lv_at hl 2 rfl) ?_
          refine va_getN (D := dC) (ci := 8) (v := .ref (ft_at ad i1 1)) (C := RX6) (T := TX6) (N := 6) hx hb hts (by decide +kernel) hown hK.1 (ft_S_P hP hi1) 0 (ft_get' (by decide) rfl) rfl 0 (by decide) (ft_nl hK.2 0 rfl) (fun _ h9 => h9) rfl dX4_letWork_76 ?_
          refine lv_iload_n hx hb dX4_letWork_79 rfl (lv_at hl 0 rfl) ?_
          refine lv_dup2_11 hx hb dX4_letWork_80 rfl rfl ?_
          have h_81 : vp_in (s_X6_wishAt r (51 + 17 * i1) 0) 4 := by first | assumption | exact isTruck_in (by assumption) | exact isDish_in (by assumption)
          refine va_iald hx hb hK.1 (ft_S_P hP hi1) 1 0 (ft_get' (by decide) rfl) rfl h_81 dX4_letWork_81 ?_
          refine lv_iconst (v := 1) hx hb dX4_letWork_82 (by decide) ?_
          refine lv_isub hx hb dX4_letWork_83 ?_
          have h_84 : vp_in (s_X6_wishAt r (51 + 17 * i1) 0) 4 := by first | assumption | exact isTruck_in (by assumption) | exact isDish_in (by assumption)
          refine va_iast hx hb hK.1 hP hD hS (5 + 3 * i1 + 1) 0 (ft_get' (by have := hi1; omega) (ft_S_T (by decide))) rfl h_84 dX4_letWork_84 (fun H locs hP hD hS => ?_)
          have hP := ft_cast hP (ft_S_upT (i := i1) (x := 1) (r := (s_X6_dropFirst (va_up (va_up r (51 + 17 * i1 + 1) (s_X7_minutesFor (s_X6_wishAt r (51 + 17 * i1) 0))) (51 + 17 * i1 + 1) (((va_up r (51 + 17 * i1 + 1) (s_X7_minutesFor (s_X6_wishAt r (51 + 17 * i1) 0))) (51 + 17 * i1 + 1)) - 1)) (51 + 17 * i1))) (by decide) (ft_T_a1 (ft_tn h_84)) (ft_up_a1 (ft_tn h_84)))
          have hD := ft_castD hD (ft_S_upT (i := i1) (x := 1) (r := (s_X6_dropFirst (va_up (va_up r (51 + 17 * i1 + 1) (s_X7_minutesFor (s_X6_wishAt r (51 + 17 * i1) 0))) (51 + 17 * i1 + 1) (((va_up r (51 + 17 * i1 + 1) (s_X7_minutesFor (s_X6_wishAt r (51 + 17 * i1) 0))) (51 + 17 * i1 + 1)) - 1)) (51 + 17 * i1))) (by decide) (ft_T_a1 (ft_tn h_84)) (ft_up_a1 (ft_tn h_84)))
          have hP : va_P dC vwCl (ft_WS ad k (va_up (s_X6_dropFirst (va_up (va_up r (51 + 17 * i1 + 1) (s_X7_minutesFor (s_X6_wishAt r (51 + 17 * i1) 0))) (51 + 17 * i1 + 1) (((va_up r (51 + 17 * i1 + 1) (s_X7_minutesFor (s_X6_wishAt r (51 + 17 * i1) 0))) (51 + 17 * i1 + 1)) - 1)) (51 + 17 * i1)) (51 + 17 * i1 + 4 + tn (s_X6_wishAt r (51 + 17 * i1) 0)) ((ft_ar (s_X6_dropFirst (va_up (va_up r (51 + 17 * i1 + 1) (s_X7_minutesFor (s_X6_wishAt r (51 + 17 * i1) 0))) (51 + 17 * i1 + 1) (((va_up r (51 + 17 * i1 + 1) (s_X7_minutesFor (s_X6_wishAt r (51 + 17 * i1) 0))) (51 + 17 * i1 + 1)) - 1)) (51 + 17 * i1)) (51 + 17 * i1 + 4) 4 (tn (s_X6_wishAt r (51 + 17 * i1) 0))) - 1))) H := hP
          have hD : va_D (ft_A 23 ad) (ft_WS ad k (va_up (s_X6_dropFirst (va_up (va_up r (51 + 17 * i1 + 1) (s_X7_minutesFor (s_X6_wishAt r (51 + 17 * i1) 0))) (51 + 17 * i1 + 1) (((va_up r (51 + 17 * i1 + 1) (s_X7_minutesFor (s_X6_wishAt r (51 + 17 * i1) 0))) (51 + 17 * i1 + 1)) - 1)) (51 + 17 * i1)) (51 + 17 * i1 + 4 + tn (s_X6_wishAt r (51 + 17 * i1) 0)) ((ft_ar (s_X6_dropFirst (va_up (va_up r (51 + 17 * i1 + 1) (s_X7_minutesFor (s_X6_wishAt r (51 + 17 * i1) 0))) (51 + 17 * i1 + 1) (((va_up r (51 + 17 * i1 + 1) (s_X7_minutesFor (s_X6_wishAt r (51 + 17 * i1) 0))) (51 + 17 * i1 + 1)) - 1)) (51 + 17 * i1)) (51 + 17 * i1 + 4) 4 (tn (s_X6_wishAt r (51 + 17 * i1) 0))) - 1))) := hD
          refine lv_aload_n hx hb dX4_letWork_85 rfl (lv_at hl 2 rfl) ?_
          refine lv_dup hx hb dX4_letWork_86 rfl ?_
          refine va_getN (D := dC) (ci := 8) (v := .int ((va_up (s_X6_dropFirst (va_up (va_up r (51 + 17 * i1 + 1) (s_X7_minutesFor (s_X6_wishAt r (51 + 17 * i1) 0))) (51 + 17 * i1 + 1) (((va_up r (51 + 17 * i1 + 1) (s_X7_minutesFor (s_X6_wishAt r (51 + 17 * i1) 0))) (51 + 17 * i1 + 1)) - 1)) (51 + 17 * i1)) (51 + 17 * i1 + 4 + tn (s_X6_wishAt r (51 + 17 * i1) 0)) ((ft_ar (s_X6_dropFirst (va_up (va_up r (51 + 17 * i1 + 1) (s_X7_minutesFor (s_X6_wishAt r (51 + 17 * i1) 0))) (51 + 17 * i1 + 1) (((va_up r (51 + 17 * i1 + 1) (s_X7_minutesFor (s_X6_wishAt r (51 + 17 * i1) 0))) (51 + 17 * i1 + 1)) - 1)) (51 + 17 * i1)) (51 + 17 * i1 + 4) 4 (tn (s_X6_wishAt r (51 + 17 * i1) 0))) - 1)) (51 + 17 * i1 + 0))) (C := RX6) (T := TX6) (N := 6) hx hb hts (by decide +kernel) hown hK.1 (ft_S_P hP hi1) 0 (ft_get' (by decide) rfl) rfl 4 (by decide) (ft_nl hK.2 6 rfl) (fun _ h9 => h9) rfl dX4_letWork_87 ?_
          refine lv_aload_n hx hb dX4_letWork_90 rfl (lv_at hl 1 rfl) ?_
          refine va_get (D := dC) (ci := 6) (v := .ref (ad 3)) (C := RX4) (T := TX4) (N := 12) hx hb hts (by decide +kernel) hown hK.1 hP 0 (ft_get' (by decide) rfl) rfl 2 (by decide) (hts (.fieldLink RX4 21 "FoodTruckRota$Square" "prices" "[I") (by decide +kernel)) (fun _ h9 => h9) rfl dX4_letWork_91 ?_
          refine lv_iload_n hx hb dX4_letWork_94 rfl (lv_at hl 0 rfl) ?_
          have h_95 : vp_in (s_X6_wishAt r (51 + 17 * i1) 0) 4 := by first | assumption | exact isTruck_in (by assumption) | exact isDish_in (by assumption)
          refine va_iald hx hb hK.1 hP 3 0 (ft_get' (by decide) rfl) rfl h_95 dX4_letWork_95 ?_
          refine lv_iadd hx hb dX4_letWork_96 ?_
          refine va_putN (D := dC) (ci := 8) (v := .int (((va_up (s_X6_dropFirst (va_up (va_up r (51 + 17 * i1 + 1) (s_X7_minutesFor (s_X6_wishAt r (51 + 17 * i1) 0))) (51 + 17 * i1 + 1) (((va_up r (51 + 17 * i1 + 1) (s_X7_minutesFor (s_X6_wishAt r (51 + 17 * i1) 0))) (51 + 17 * i1 + 1)) - 1)) (51 + 17 * i1)) (51 + 17 * i1 + 4 + tn (s_X6_wishAt r (51 + 17 * i1) 0)) ((ft_ar (s_X6_dropFirst (va_up (va_up r (51 + 17 * i1 + 1) (s_X7_minutesFor (s_X6_wishAt r (51 + 17 * i1) 0))) (51 + 17 * i1 + 1) (((va_up r (51 + 17 * i1 + 1) (s_X7_minutesFor (s_X6_wishAt r (51 + 17 * i1) 0))) (51 + 17 * i1 + 1)) - 1)) (51 + 17 * i1)) (51 + 17 * i1 + 4) 4 (tn (s_X6_wishAt r (51 + 17 * i1) 0))) - 1)) (51 + 17 * i1 + 0)) + (ft_ar (va_up (s_X6_dropFirst (va_up (va_up r (51 + 17 * i1 + 1) (s_X7_minutesFor (s_X6_wishAt r (51 + 17 * i1) 0))) (51 + 17 * i1 + 1) (((va_up r (51 + 17 * i1 + 1) (s_X7_minutesFor (s_X6_wishAt r (51 + 17 * i1) 0))) (51 + 17 * i1 + 1)) - 1)) (51 + 17 * i1)) (51 + 17 * i1 + 4 + tn (s_X6_wishAt r (51 + 17 * i1) 0)) ((ft_ar (s_X6_dropFirst (va_up (va_up r (51 + 17 * i1 + 1) (s_X7_minutesFor (s_X6_wishAt r (51 + 17 * i1) 0))) (51 + 17 * i1 + 1) (((va_up r (51 + 17 * i1 + 1) (s_X7_minutesFor (s_X6_wishAt r (51 + 17 * i1) 0))) (51 + 17 * i1 + 1)) - 1)) (51 + 17 * i1)) (51 + 17 * i1 + 4) 4 (tn (s_X6_wishAt r (51 + 17 * i1) 0))) - 1)) (8) 4 (tn (s_X6_wishAt r (51 + 17 * i1) 0))))) (ty := .int) (C := RX6) (T := TX6) (N := 6) hx hb hts (by decide +kernel) tyX6 tyX6_ok nmX6 hown hK.1 hP hD hS (5 + 3 * i1 + 0) (ft_get' (by have := hi1; omega) (ft_S_T (by decide))) rfl 4 (by decide) (ft_nl hK.2 6 rfl) (fun _ h9 => h9) rfl (by decide +kernel) rfl rfl (Nat.le_of_ble_eq_true rfl) dX4_letWork_97 (fun H locs hP hD hS => ?_)
          have hP := ft_cast hP (ft_S_upT (i := i1) (x := 0) (r := (va_up (s_X6_dropFirst (va_up (va_up r (51 + 17 * i1 + 1) (s_X7_minutesFor (s_X6_wishAt r (51 + 17 * i1) 0))) (51 + 17 * i1 + 1) (((va_up r (51 + 17 * i1 + 1) (s_X7_minutesFor (s_X6_wishAt r (51 + 17 * i1) 0))) (51 + 17 * i1 + 1)) - 1)) (51 + 17 * i1)) (51 + 17 * i1 + 4 + tn (s_X6_wishAt r (51 + 17 * i1) 0)) ((ft_ar (s_X6_dropFirst (va_up (va_up r (51 + 17 * i1 + 1) (s_X7_minutesFor (s_X6_wishAt r (51 + 17 * i1) 0))) (51 + 17 * i1 + 1) (((va_up r (51 + 17 * i1 + 1) (s_X7_minutesFor (s_X6_wishAt r (51 + 17 * i1) 0))) (51 + 17 * i1 + 1)) - 1)) (51 + 17 * i1)) (51 + 17 * i1 + 4) 4 (tn (s_X6_wishAt r (51 + 17 * i1) 0))) - 1))) (by decide) ft_T_p0 (ft_up_out (by omega) (by omega)))
          have hD := ft_castD hD (ft_S_upT (i := i1) (x := 0) (r := (va_up (s_X6_dropFirst (va_up (va_up r (51 + 17 * i1 + 1) (s_X7_minutesFor (s_X6_wishAt r (51 + 17 * i1) 0))) (51 + 17 * i1 + 1) (((va_up r (51 + 17 * i1 + 1) (s_X7_minutesFor (s_X6_wishAt r (51 + 17 * i1) 0))) (51 + 17 * i1 + 1)) - 1)) (51 + 17 * i1)) (51 + 17 * i1 + 4 + tn (s_X6_wishAt r (51 + 17 * i1) 0)) ((ft_ar (s_X6_dropFirst (va_up (va_up r (51 + 17 * i1 + 1) (s_X7_minutesFor (s_X6_wishAt r (51 + 17 * i1) 0))) (51 + 17 * i1 + 1) (((va_up r (51 + 17 * i1 + 1) (s_X7_minutesFor (s_X6_wishAt r (51 + 17 * i1) 0))) (51 + 17 * i1 + 1)) - 1)) (51 + 17 * i1)) (51 + 17 * i1 + 4) 4 (tn (s_X6_wishAt r (51 + 17 * i1) 0))) - 1))) (by decide) ft_T_p0 (ft_up_out (by omega) (by omega)))
          have hP : va_P dC vwCl (ft_WS ad k (va_up (va_up (s_X6_dropFirst (va_up (va_up r (51 + 17 * i1 + 1) (s_X7_minutesFor (s_X6_wishAt r (51 + 17 * i1) 0))) (51 + 17 * i1 + 1) (((va_up r (51 + 17 * i1 + 1) (s_X7_minutesFor (s_X6_wishAt r (51 + 17 * i1) 0))) (51 + 17 * i1 + 1)) - 1)) (51 + 17 * i1)) (51 + 17 * i1 + 4 + tn (s_X6_wishAt r (51 + 17 * i1) 0)) ((ft_ar (s_X6_dropFirst (va_up (va_up r (51 + 17 * i1 + 1) (s_X7_minutesFor (s_X6_wishAt r (51 + 17 * i1) 0))) (51 + 17 * i1 + 1) (((va_up r (51 + 17 * i1 + 1) (s_X7_minutesFor (s_X6_wishAt r (51 + 17 * i1) 0))) (51 + 17 * i1 + 1)) - 1)) (51 + 17 * i1)) (51 + 17 * i1 + 4) 4 (tn (s_X6_wishAt r (51 + 17 * i1) 0))) - 1)) (51 + 17 * i1 + 0) (((va_up (s_X6_dropFirst (va_up (va_up r (51 + 17 * i1 + 1) (s_X7_minutesFor (s_X6_wishAt r (51 + 17 * i1) 0))) (51 + 17 * i1 + 1) (((va_up r (51 + 17 * i1 + 1) (s_X7_minutesFor (s_X6_wishAt r (51 + 17 * i1) 0))) (51 + 17 * i1 + 1)) - 1)) (51 + 17 * i1)) (51 + 17 * i1 + 4 + tn (s_X6_wishAt r (51 + 17 * i1) 0)) ((ft_ar (s_X6_dropFirst (va_up (va_up r (51 + 17 * i1 + 1) (s_X7_minutesFor (s_X6_wishAt r (51 + 17 * i1) 0))) (51 + 17 * i1 + 1) (((va_up r (51 + 17 * i1 + 1) (s_X7_minutesFor (s_X6_wishAt r (51 + 17 * i1) 0))) (51 + 17 * i1 + 1)) - 1)) (51 + 17 * i1)) (51 + 17 * i1 + 4) 4 (tn (s_X6_wishAt r (51 + 17 * i1) 0))) - 1)) (51 + 17 * i1 + 0)) + (ft_ar (va_up (s_X6_dropFirst (va_up (va_up r (51 + 17 * i1 + 1) (s_X7_minutesFor (s_X6_wishAt r (51 + 17 * i1) 0))) (51 + 17 * i1 + 1) (((va_up r (51 + 17 * i1 + 1) (s_X7_minutesFor (s_X6_wishAt r (51 + 17 * i1) 0))) (51 + 17 * i1 + 1)) - 1)) (51 + 17 * i1)) (51 + 17 * i1 + 4 + tn (s_X6_wishAt r (51 + 17 * i1) 0)) ((ft_ar (s_X6_dropFirst (va_up (va_up r (51 + 17 * i1 + 1) (s_X7_minutesFor (s_X6_wishAt r (51 + 17 * i1) 0))) (51 + 17 * i1 + 1) (((va_up r (51 + 17 * i1 + 1) (s_X7_minutesFor (s_X6_wishAt r (51 + 17 * i1) 0))) (51 + 17 * i1 + 1)) - 1)) (51 + 17 * i1)) (51 + 17 * i1 + 4) 4 (tn (s_X6_wishAt r (51 + 17 * i1) 0))) - 1)) (8) 4 (tn (s_X6_wishAt r (51 + 17 * i1) 0)))))) H := hP
          have hD : va_D (ft_A 23 ad) (ft_WS ad k (va_up (va_up (s_X6_dropFirst (va_up (va_up r (51 + 17 * i1 + 1) (s_X7_minutesFor (s_X6_wishAt r (51 + 17 * i1) 0))) (51 + 17 * i1 + 1) (((va_up r (51 + 17 * i1 + 1) (s_X7_minutesFor (s_X6_wishAt r (51 + 17 * i1) 0))) (51 + 17 * i1 + 1)) - 1)) (51 + 17 * i1)) (51 + 17 * i1 + 4 + tn (s_X6_wishAt r (51 + 17 * i1) 0)) ((ft_ar (s_X6_dropFirst (va_up (va_up r (51 + 17 * i1 + 1) (s_X7_minutesFor (s_X6_wishAt r (51 + 17 * i1) 0))) (51 + 17 * i1 + 1) (((va_up r (51 + 17 * i1 + 1) (s_X7_minutesFor (s_X6_wishAt r (51 + 17 * i1) 0))) (51 + 17 * i1 + 1)) - 1)) (51 + 17 * i1)) (51 + 17 * i1 + 4) 4 (tn (s_X6_wishAt r (51 + 17 * i1) 0))) - 1)) (51 + 17 * i1 + 0) (((va_up (s_X6_dropFirst (va_up (va_up r (51 + 17 * i1 + 1) (s_X7_minutesFor (s_X6_wishAt r (51 + 17 * i1) 0))) (51 + 17 * i1 + 1) (((va_up r (51 + 17 * i1 + 1) (s_X7_minutesFor (s_X6_wishAt r (51 + 17 * i1) 0))) (51 + 17 * i1 + 1)) - 1)) (51 + 17 * i1)) (51 + 17 * i1 + 4 + tn (s_X6_wishAt r (51 + 17 * i1) 0)) ((ft_ar (s_X6_dropFirst (va_up (va_up r (51 + 17 * i1 + 1) (s_X7_minutesFor (s_X6_wishAt r (51 + 17 * i1) 0))) (51 + 17 * i1 + 1) (((va_up r (51 + 17 * i1 + 1) (s_X7_minutesFor (s_X6_wishAt r (51 + 17 * i1) 0))) (51 + 17 * i1 + 1)) - 1)) (51 + 17 * i1)) (51 + 17 * i1 + 4) 4 (tn (s_X6_wishAt r (51 + 17 * i1) 0))) - 1)) (51 + 17 * i1 + 0)) + (ft_ar (va_up (s_X6_dropFirst (va_up (va_up r (51 + 17 * i1 + 1) (s_X7_minutesFor (s_X6_wishAt r (51 + 17 * i1) 0))) (51 + 17 * i1 + 1) (((va_up r (51 + 17 * i1 + 1) (s_X7_minutesFor (s_X6_wishAt r (51 + 17 * i1) 0))) (51 + 17 * i1 + 1)) - 1)) (51 + 17 * i1)) (51 + 17 * i1 + 4 + tn (s_X6_wishAt r (51 + 17 * i1) 0)) ((ft_ar (s_X6_dropFirst (va_up (va_up r (51 + 17 * i1 + 1) (s_X7_minutesFor (s_X6_wishAt r (51 + 17 * i1) 0))) (51 + 17 * i1 + 1) (((va_up r (51 + 17 * i1 + 1) (s_X7_minutesFor (s_X6_wishAt r (51 + 17 * i1) 0))) (51 + 17 * i1 + 1)) - 1)) (51 + 17 * i1)) (51 + 17 * i1 + 4) 4 (tn (s_X6_wishAt r (51 + 17 * i1) 0))) - 1)) (8) 4 (tn (s_X6_wishAt r (51 + 17 * i1) 0)))))) := hD
          refine lv_aload_n hx hb dX4_letWork_100 rfl (lv_at hl 1 rfl) ?_
          refine va_get (D := dC) (ci := 6) (v := .ref (ad 4)) (C := RX4) (T := TX4) (N := 12) hx hb hts (by decide +kernel) hown hK.1 hP 0 (ft_get' (by decide) rfl) rfl 3 (by decide) (hts (.fieldLink RX4 24 "FoodTruckRota$Square" "sold" "[I") (by decide +kernel)) (fun _ h9 => h9) rfl dX4_letWork_101 ?_
          refine lv_iload_n hx hb dX4_letWork_104 rfl (lv_at hl 0 rfl) ?_
          refine lv_dup2_11 hx hb dX4_letWork_105 rfl rfl ?_
          have h_106 : vp_in (s_X6_wishAt r (51 + 17 * i1) 0) 4 := by first | assumption | exact isTruck_in (by assumption) | exact isDish_in (by assumption)
          refine va_iald hx hb hK.1 hP 4 0 (ft_get' (by decide) rfl) rfl h_106 dX4_letWork_106 ?_
          refine lv_iconst (v := 1) hx hb dX4_letWork_107 (by decide) ?_
          refine lv_iadd hx hb dX4_letWork_108 ?_
          have h_109 : vp_in (s_X6_wishAt r (51 + 17 * i1) 0) 4 := by first | assumption | exact isTruck_in (by assumption) | exact isDish_in (by assumption)
          refine va_iast hx hb hK.1 hP hD hS 4 0 (ft_get' (by decide) rfl) rfl h_109 dX4_letWork_109 (fun H locs hP hD hS => ?_)
          have hP := ft_cast hP (ft_S_as (ft_tn h_109))
          have hD := ft_castD hD (ft_S_as (ft_tn h_109))
          have hP : va_P dC vwCl (ft_WS ad k (va_up (va_up (va_up (s_X6_dropFirst (va_up (va_up r (51 + 17 * i1 + 1) (s_X7_minutesFor (s_X6_wishAt r (51 + 17 * i1) 0))) (51 + 17 * i1 + 1) (((va_up r (51 + 17 * i1 + 1) (s_X7_minutesFor (s_X6_wishAt r (51 + 17 * i1) 0))) (51 + 17 * i1 + 1)) - 1)) (51 + 17 * i1)) (51 + 17 * i1 + 4 + tn (s_X6_wishAt r (51 + 17 * i1) 0)) ((ft_ar (s_X6_dropFirst (va_up (va_up r (51 + 17 * i1 + 1) (s_X7_minutesFor (s_X6_wishAt r (51 + 17 * i1) 0))) (51 + 17 * i1 + 1) (((va_up r (51 + 17 * i1 + 1) (s_X7_minutesFor (s_X6_wishAt r (51 + 17 * i1) 0))) (51 + 17 * i1 + 1)) - 1)) (51 + 17 * i1)) (51 + 17 * i1 + 4) 4 (tn (s_X6_wishAt r (51 + 17 * i1) 0))) - 1)) (51 + 17 * i1 + 0) (((va_up (s_X6_dropFirst (va_up (va_up r (51 + 17 * i1 + 1) (s_X7_minutesFor (s_X6_wishAt r (51 + 17 * i1) 0))) (51 + 17 * i1 + 1) (((va_up r (51 + 17 * i1 + 1) (s_X7_minutesFor (s_X6_wishAt r (51 + 17 * i1) 0))) (51 + 17 * i1 + 1)) - 1)) (51 + 17 * i1)) (51 + 17 * i1 + 4 + tn (s_X6_wishAt r (51 + 17 * i1) 0)) ((ft_ar (s_X6_dropFirst (va_up (va_up r (51 + 17 * i1 + 1) (s_X7_minutesFor (s_X6_wishAt r (51 + 17 * i1) 0))) (51 + 17 * i1 + 1) (((va_up r (51 + 17 * i1 + 1) (s_X7_minutesFor (s_X6_wishAt r (51 + 17 * i1) 0))) (51 + 17 * i1 + 1)) - 1)) (51 + 17 * i1)) (51 + 17 * i1 + 4) 4 (tn (s_X6_wishAt r (51 + 17 * i1) 0))) - 1)) (51 + 17 * i1 + 0)) + (ft_ar (va_up (s_X6_dropFirst (va_up (va_up r (51 + 17 * i1 + 1) (s_X7_minutesFor (s_X6_wishAt r (51 + 17 * i1) 0))) (51 + 17 * i1 + 1) (((va_up r (51 + 17 * i1 + 1) (s_X7_minutesFor (s_X6_wishAt r (51 + 17 * i1) 0))) (51 + 17 * i1 + 1)) - 1)) (51 + 17 * i1)) (51 + 17 * i1 + 4 + tn (s_X6_wishAt r (51 + 17 * i1) 0)) ((ft_ar (s_X6_dropFirst (va_up (va_up r (51 + 17 * i1 + 1) (s_X7_minutesFor (s_X6_wishAt r (51 + 17 * i1) 0))) (51 + 17 * i1 + 1) (((va_up r (51 + 17 * i1 + 1) (s_X7_minutesFor (s_X6_wishAt r (51 + 17 * i1) 0))) (51 + 17 * i1 + 1)) - 1)) (51 + 17 * i1)) (51 + 17 * i1 + 4) 4 (tn (s_X6_wishAt r (51 + 17 * i1) 0))) - 1)) (8) 4 (tn (s_X6_wishAt r (51 + 17 * i1) 0))))) (12 + tn (s_X6_wishAt r (51 + 17 * i1) 0)) ((ft_ar (va_up (va_up (s_X6_dropFirst (va_up (va_up r (51 + 17 * i1 + 1) (s_X7_minutesFor (s_X6_wishAt r (51 + 17 * i1) 0))) (51 + 17 * i1 + 1) (((va_up r (51 + 17 * i1 + 1) (s_X7_minutesFor (s_X6_wishAt r (51 + 17 * i1) 0))) (51 + 17 * i1 + 1)) - 1)) (51 + 17 * i1)) (51 + 17 * i1 + 4 + tn (s_X6_wishAt r (51 + 17 * i1) 0)) ((ft_ar (s_X6_dropFirst (va_up (va_up r (51 + 17 * i1 + 1) (s_X7_minutesFor (s_X6_wishAt r (51 + 17 * i1) 0))) (51 + 17 * i1 + 1) (((va_up r (51 + 17 * i1 + 1) (s_X7_minutesFor (s_X6_wishAt r (51 + 17 * i1) 0))) (51 + 17 * i1 + 1)) - 1)) (51 + 17 * i1)) (51 + 17 * i1 + 4) 4 (tn (s_X6_wishAt r (51 + 17 * i1) 0))) - 1)) (51 + 17 * i1 + 0) (((va_up (s_X6_dropFirst (va_up (va_up r (51 + 17 * i1 + 1) (s_X7_minutesFor (s_X6_wishAt r (51 + 17 * i1) 0))) (51 + 17 * i1 + 1) (((va_up r (51 + 17 * i1 + 1) (s_X7_minutesFor (s_X6_wishAt r (51 + 17 * i1) 0))) (51 + 17 * i1 + 1)) - 1)) (51 + 17 * i1)) (51 + 17 * i1 + 4 + tn (s_X6_wishAt r (51 + 17 * i1) 0)) ((ft_ar (s_X6_dropFirst (va_up (va_up r (51 + 17 * i1 + 1) (s_X7_minutesFor (s_X6_wishAt r (51 + 17 * i1) 0))) (51 + 17 * i1 + 1) (((va_up r (51 + 17 * i1 + 1) (s_X7_minutesFor (s_X6_wishAt r (51 + 17 * i1) 0))) (51 + 17 * i1 + 1)) - 1)) (51 + 17 * i1)) (51 + 17 * i1 + 4) 4 (tn (s_X6_wishAt r (51 + 17 * i1) 0))) - 1)) (51 + 17 * i1 + 0)) + (ft_ar (va_up (s_X6_dropFirst (va_up (va_up r (51 + 17 * i1 + 1) (s_X7_minutesFor (s_X6_wishAt r (51 + 17 * i1) 0))) (51 + 17 * i1 + 1) (((va_up r (51 + 17 * i1 + 1) (s_X7_minutesFor (s_X6_wishAt r (51 + 17 * i1) 0))) (51 + 17 * i1 + 1)) - 1)) (51 + 17 * i1)) (51 + 17 * i1 + 4 + tn (s_X6_wishAt r (51 + 17 * i1) 0)) ((ft_ar (s_X6_dropFirst (va_up (va_up r (51 + 17 * i1 + 1) (s_X7_minutesFor (s_X6_wishAt r (51 + 17 * i1) 0))) (51 + 17 * i1 + 1) (((va_up r (51 + 17 * i1 + 1) (s_X7_minutesFor (s_X6_wishAt r (51 + 17 * i1) 0))) (51 + 17 * i1 + 1)) - 1)) (51 + 17 * i1)) (51 + 17 * i1 + 4) 4 (tn (s_X6_wishAt r (51 + 17 * i1) 0))) - 1)) (8) 4 (tn (s_X6_wishAt r (51 + 17 * i1) 0))))) (12) 4 (tn (s_X6_wishAt r (51 + 17 * i1) 0))) + 1))) H := hP
          have hD : va_D (ft_A 23 ad) (ft_WS ad k (va_up (va_up (va_up (s_X6_dropFirst (va_up (va_up r (51 + 17 * i1 + 1) (s_X7_minutesFor (s_X6_wishAt r (51 + 17 * i1) 0))) (51 + 17 * i1 + 1) (((va_up r (51 + 17 * i1 + 1) (s_X7_minutesFor (s_X6_wishAt r (51 + 17 * i1) 0))) (51 + 17 * i1 + 1)) - 1)) (51 + 17 * i1)) (51 + 17 * i1 + 4 + tn (s_X6_wishAt r (51 + 17 * i1) 0)) ((ft_ar (s_X6_dropFirst (va_up (va_up r (51 + 17 * i1 + 1) (s_X7_minutesFor (s_X6_wishAt r (51 + 17 * i1) 0))) (51 + 17 * i1 + 1) (((va_up r (51 + 17 * i1 + 1) (s_X7_minutesFor (s_X6_wishAt r (51 + 17 * i1) 0))) (51 + 17 * i1 + 1)) - 1)) (51 + 17 * i1)) (51 + 17 * i1 + 4) 4 (tn (s_X6_wishAt r (51 + 17 * i1) 0))) - 1)) (51 + 17 * i1 + 0) (((va_up (s_X6_dropFirst (va_up (va_up r (51 + 17 * i1 + 1) (s_X7_minutesFor (s_X6_wishAt r (51 + 17 * i1) 0))) (51 + 17 * i1 + 1) (((va_up r (51 + 17 * i1 + 1) (s_X7_minutesFor (s_X6_wishAt r (51 + 17 * i1) 0))) (51 + 17 * i1 + 1)) - 1)) (51 + 17 * i1)) (51 + 17 * i1 + 4 + tn (s_X6_wishAt r (51 + 17 * i1) 0)) ((ft_ar (s_X6_dropFirst (va_up (va_up r (51 + 17 * i1 + 1) (s_X7_minutesFor (s_X6_wishAt r (51 + 17 * i1) 0))) (51 + 17 * i1 + 1) (((va_up r (51 + 17 * i1 + 1) (s_X7_minutesFor (s_X6_wishAt r (51 + 17 * i1) 0))) (51 + 17 * i1 + 1)) - 1)) (51 + 17 * i1)) (51 + 17 * i1 + 4) 4 (tn (s_X6_wishAt r (51 + 17 * i1) 0))) - 1)) (51 + 17 * i1 + 0)) + (ft_ar (va_up (s_X6_dropFirst (va_up (va_up r (51 + 17 * i1 + 1) (s_X7_minutesFor (s_X6_wishAt r (51 + 17 * i1) 0))) (51 + 17 * i1 + 1) (((va_up r (51 + 17 * i1 + 1) (s_X7_minutesFor (s_X6_wishAt r (51 + 17 * i1) 0))) (51 + 17 * i1 + 1)) - 1)) (51 + 17 * i1)) (51 + 17 * i1 + 4 + tn (s_X6_wishAt r (51 + 17 * i1) 0)) ((ft_ar (s_X6_dropFirst (va_up (va_up r (51 + 17 * i1 + 1) (s_X7_minutesFor (s_X6_wishAt r (51 + 17 * i1) 0))) (51 + 17 * i1 + 1) (((va_up r (51 + 17 * i1 + 1) (s_X7_minutesFor (s_X6_wishAt r (51 + 17 * i1) 0))) (51 + 17 * i1 + 1)) - 1)) (51 + 17 * i1)) (51 + 17 * i1 + 4) 4 (tn (s_X6_wishAt r (51 + 17 * i1) 0))) - 1)) (8) 4 (tn (s_X6_wishAt r (51 + 17 * i1) 0))))) (12 + tn (s_X6_wishAt r (51 + 17 * i1) 0)) ((ft_ar (va_up (va_up (s_X6_dropFirst (va_up (va_up r (51 + 17 * i1 + 1) (s_X7_minutesFor (s_X6_wishAt r (51 + 17 * i1) 0))) (51 + 17 * i1 + 1) (((va_up r (51 + 17 * i1 + 1) (s_X7_minutesFor (s_X6_wishAt r (51 + 17 * i1) 0))) (51 + 17 * i1 + 1)) - 1)) (51 + 17 * i1)) (51 + 17 * i1 + 4 + tn (s_X6_wishAt r (51 + 17 * i1) 0)) ((ft_ar (s_X6_dropFirst (va_up (va_up r (51 + 17 * i1 + 1) (s_X7_minutesFor (s_X6_wishAt r (51 + 17 * i1) 0))) (51 + 17 * i1 + 1) (((va_up r (51 + 17 * i1 + 1) (s_X7_minutesFor (s_X6_wishAt r (51 + 17 * i1) 0))) (51 + 17 * i1 + 1)) - 1)) (51 + 17 * i1)) (51 + 17 * i1 + 4) 4 (tn (s_X6_wishAt r (51 + 17 * i1) 0))) - 1)) (51 + 17 * i1 + 0) (((va_up (s_X6_dropFirst (va_up (va_up r (51 + 17 * i1 + 1) (s_X7_minutesFor (s_X6_wishAt r (51 + 17 * i1) 0))) (51 + 17 * i1 + 1) (((va_up r (51 + 17 * i1 + 1) (s_X7_minutesFor (s_X6_wishAt r (51 + 17 * i1) 0))) (51 + 17 * i1 + 1)) - 1)) (51 + 17 * i1)) (51 + 17 * i1 + 4 + tn (s_X6_wishAt r (51 + 17 * i1) 0)) ((ft_ar (s_X6_dropFirst (va_up (va_up r (51 + 17 * i1 + 1) (s_X7_minutesFor (s_X6_wishAt r (51 + 17 * i1) 0))) (51 + 17 * i1 + 1) (((va_up r (51 + 17 * i1 + 1) (s_X7_minutesFor (s_X6_wishAt r (51 + 17 * i1) 0))) (51 + 17 * i1 + 1)) - 1)) (51 + 17 * i1)) (51 + 17 * i1 + 4) 4 (tn (s_X6_wishAt r (51 + 17 * i1) 0))) - 1)) (51 + 17 * i1 + 0)) + (ft_ar (va_up (s_X6_dropFirst (va_up (va_up r (51 + 17 * i1 + 1) (s_X7_minutesFor (s_X6_wishAt r (51 + 17 * i1) 0))) (51 + 17 * i1 + 1) (((va_up r (51 + 17 * i1 + 1) (s_X7_minutesFor (s_X6_wishAt r (51 + 17 * i1) 0))) (51 + 17 * i1 + 1)) - 1)) (51 + 17 * i1)) (51 + 17 * i1 + 4 + tn (s_X6_wishAt r (51 + 17 * i1) 0)) ((ft_ar (s_X6_dropFirst (va_up (va_up r (51 + 17 * i1 + 1) (s_X7_minutesFor (s_X6_wishAt r (51 + 17 * i1) 0))) (51 + 17 * i1 + 1) (((va_up r (51 + 17 * i1 + 1) (s_X7_minutesFor (s_X6_wishAt r (51 + 17 * i1) 0))) (51 + 17 * i1 + 1)) - 1)) (51 + 17 * i1)) (51 + 17 * i1 + 4) 4 (tn (s_X6_wishAt r (51 + 17 * i1) 0))) - 1)) (8) 4 (tn (s_X6_wishAt r (51 + 17 * i1) 0))))) (12) 4 (tn (s_X6_wishAt r (51 + 17 * i1) 0))) + 1))) := hD
          refine lv_aload_n hx hb dX4_letWork_110 rfl (lv_at hl 1 rfl) ?_
          refine lv_dup hx hb dX4_letWork_111 rfl ?_
          refine va_get (D := dC) (ci := 6) (v := .int ((va_up (va_up (va_up (s_X6_dropFirst (va_up (va_up r (51 + 17 * i1 + 1) (s_X7_minutesFor (s_X6_wishAt r (51 + 17 * i1) 0))) (51 + 17 * i1 + 1) (((va_up r (51 + 17 * i1 + 1) (s_X7_minutesFor (s_X6_wishAt r (51 + 17 * i1) 0))) (51 + 17 * i1 + 1)) - 1)) (51 + 17 * i1)) (51 + 17 * i1 + 4 + tn (s_X6_wishAt r (51 + 17 * i1) 0)) ((ft_ar (s_X6_dropFirst (va_up (va_up r (51 + 17 * i1 + 1) (s_X7_minutesFor (s_X6_wishAt r (51 + 17 * i1) 0))) (51 + 17 * i1 + 1) (((va_up r (51 + 17 * i1 + 1) (s_X7_minutesFor (s_X6_wishAt r (51 + 17 * i1) 0))) (51 + 17 * i1 + 1)) - 1)) (51 + 17 * i1)) (51 + 17 * i1 + 4) 4 (tn (s_X6_wishAt r (51 + 17 * i1) 0))) - 1)) (51 + 17 * i1 + 0) (((va_up (s_X6_dropFirst (va_up (va_up r (51 + 17 * i1 + 1) (s_X7_minutesFor (s_X6_wishAt r (51 + 17 * i1) 0))) (51 + 17 * i1 + 1) (((va_up r (51 + 17 * i1 + 1) (s_X7_minutesFor (s_X6_wishAt r (51 + 17 * i1) 0))) (51 + 17 * i1 + 1)) - 1)) (51 + 17 * i1)) (51 + 17 * i1 + 4 + tn (s_X6_wishAt r (51 + 17 * i1) 0)) ((ft_ar (s_X6_dropFirst (va_up (va_up r (51 + 17 * i1 + 1) (s_X7_minutesFor (s_X6_wishAt r (51 + 17 * i1) 0))) (51 + 17 * i1 + 1) (((va_up r (51 + 17 * i1 + 1) (s_X7_minutesFor (s_X6_wishAt r (51 + 17 * i1) 0))) (51 + 17 * i1 + 1)) - 1)) (51 + 17 * i1)) (51 + 17 * i1 + 4) 4 (tn (s_X6_wishAt r (51 + 17 * i1) 0))) - 1)) (51 + 17 * i1 + 0)) + (ft_ar (va_up (s_X6_dropFirst (va_up (va_up r (51 + 17 * i1 + 1) (s_X7_minutesFor (s_X6_wishAt r (51 + 17 * i1) 0))) (51 + 17 * i1 + 1) (((va_up r (51 + 17 * i1 + 1) (s_X7_minutesFor (s_X6_wishAt r (51 + 17 * i1) 0))) (51 + 17 * i1 + 1)) - 1)) (51 + 17 * i1)) (51 + 17 * i1 + 4 + tn (s_X6_wishAt r (51 + 17 * i1) 0)) ((ft_ar (s_X6_dropFirst (va_up (va_up r (51 + 17 * i1 + 1) (s_X7_minutesFor (s_X6_wishAt r (51 + 17 * i1) 0))) (51 + 17 * i1 + 1) (((va_up r (51 + 17 * i1 + 1) (s_X7_minutesFor (s_X6_wishAt r (51 + 17 * i1) 0))) (51 + 17 * i1 + 1)) - 1)) (51 + 17 * i1)) (51 + 17 * i1 + 4) 4 (tn (s_X6_wishAt r (51 + 17 * i1) 0))) - 1)) (8) 4 (tn (s_X6_wishAt r (51 + 17 * i1) 0))))) (12 + tn (s_X6_wishAt r (51 + 17 * i1) 0)) ((ft_ar (va_up (va_up (s_X6_dropFirst (va_up (va_up r (51 + 17 * i1 + 1) (s_X7_minutesFor (s_X6_wishAt r (51 + 17 * i1) 0))) (51 + 17 * i1 + 1) (((va_up r (51 + 17 * i1 + 1) (s_X7_minutesFor (s_X6_wishAt r (51 + 17 * i1) 0))) (51 + 17 * i1 + 1)) - 1)) (51 + 17 * i1)) (51 + 17 * i1 + 4 + tn (s_X6_wishAt r (51 + 17 * i1) 0)) ((ft_ar (s_X6_dropFirst (va_up (va_up r (51 + 17 * i1 + 1) (s_X7_minutesFor (s_X6_wishAt r (51 + 17 * i1) 0))) (51 + 17 * i1 + 1) (((va_up r (51 + 17 * i1 + 1) (s_X7_minutesFor (s_X6_wishAt r (51 + 17 * i1) 0))) (51 + 17 * i1 + 1)) - 1)) (51 + 17 * i1)) (51 + 17 * i1 + 4) 4 (tn (s_X6_wishAt r (51 + 17 * i1) 0))) - 1)) (51 + 17 * i1 + 0) (((va_up (s_X6_dropFirst (va_up (va_up r (51 + 17 * i1 + 1) (s_X7_minutesFor (s_X6_wishAt r (51 + 17 * i1) 0))) (51 + 17 * i1 + 1) (((va_up r (51 + 17 * i1 + 1) (s_X7_minutesFor (s_X6_wishAt r (51 + 17 * i1) 0))) (51 + 17 * i1 + 1)) - 1)) (51 + 17 * i1)) (51 + 17 * i1 + 4 + tn (s_X6_wishAt r (51 + 17 * i1) 0)) ((ft_ar (s_X6_dropFirst (va_up (va_up r (51 + 17 * i1 + 1) (s_X7_minutesFor (s_X6_wishAt r (51 + 17 * i1) 0))) (51 + 17 * i1 + 1) (((va_up r (51 + 17 * i1 + 1) (s_X7_minutesFor (s_X6_wishAt r (51 + 17 * i1) 0))) (51 + 17 * i1 + 1)) - 1)) (51 + 17 * i1)) (51 + 17 * i1 + 4) 4 (tn (s_X6_wishAt r (51 + 17 * i1) 0))) - 1)) (51 + 17 * i1 + 0)) + (ft_ar (va_up (s_X6_dropFirst (va_up (va_up r (51 + 17 * i1 + 1) (s_X7_minutesFor (s_X6_wishAt r (51 + 17 * i1) 0))) (51 + 17 * i1 + 1) (((va_up r (51 + 17 * i1 + 1) (s_X7_minutesFor (s_X6_wishAt r (51 + 17 * i1) 0))) (51 + 17 * i1 + 1)) - 1)) (51 + 17 * i1)) (51 + 17 * i1 + 4 + tn (s_X6_wishAt r (51 + 17 * i1) 0)) ((ft_ar (s_X6_dropFirst (va_up (va_up r (51 + 17 * i1 + 1) (s_X7_minutesFor (s_X6_wishAt r (51 + 17 * i1) 0))) (51 + 17 * i1 + 1) (((va_up r (51 + 17 * i1 + 1) (s_X7_minutesFor (s_X6_wishAt r (51 + 17 * i1) 0))) (51 + 17 * i1 + 1)) - 1)) (51 + 17 * i1)) (51 + 17 * i1 + 4) 4 (tn (s_X6_wishAt r (51 + 17 * i1) 0))) - 1)) (8) 4 (tn (s_X6_wishAt r (51 + 17 * i1) 0))))) (12) 4 (tn (s_X6_wishAt r (51 + 17 * i1) 0))) + 1)) 5)) (C := RX4) (T := TX4) (N := 12) hx hb hts (by decide +kernel) hown hK.1 hP 0 (ft_get' (by decide) rfl) rfl 9 (by decide) (hts (.fieldLink RX4 60 "FoodTruckRota$Square" "served" "I") (by decide +kernel)) (fun _ h9 => h9) rfl dX4_letWork_112 ?_
          refine lv_iconst (v := 1) hx hb dX4_letWork_115 (by decide) ?_
          refine lv_iadd hx hb dX4_letWork_116 ?_
          refine va_put (D := dC) (ci := 6) (v := .int (((va_up (va_up (va_up (s_X6_dropFirst (va_up (va_up r (51 + 17 * i1 + 1) (s_X7_minutesFor (s_X6_wishAt r (51 + 17 * i1) 0))) (51 + 17 * i1 + 1) (((va_up r (51 + 17 * i1 + 1) (s_X7_minutesFor (s_X6_wishAt r (51 + 17 * i1) 0))) (51 + 17 * i1 + 1)) - 1)) (51 + 17 * i1)) (51 + 17 * i1 + 4 + tn (s_X6_wishAt r (51 + 17 * i1) 0)) ((ft_ar (s_X6_dropFirst (va_up (va_up r (51 + 17 * i1 + 1) (s_X7_minutesFor (s_X6_wishAt r (51 + 17 * i1) 0))) (51 + 17 * i1 + 1) (((va_up r (51 + 17 * i1 + 1) (s_X7_minutesFor (s_X6_wishAt r (51 + 17 * i1) 0))) (51 + 17 * i1 + 1)) - 1)) (51 + 17 * i1)) (51 + 17 * i1 + 4) 4 (tn (s_X6_wishAt r (51 + 17 * i1) 0))) - 1)) (51 + 17 * i1 + 0) (((va_up (s_X6_dropFirst (va_up (va_up r (51 + 17 * i1 + 1) (s_X7_minutesFor (s_X6_wishAt r (51 + 17 * i1) 0))) (51 + 17 * i1 + 1) (((va_up r (51 + 17 * i1 + 1) (s_X7_minutesFor (s_X6_wishAt r (51 + 17 * i1) 0))) (51 + 17 * i1 + 1)) - 1)) (51 + 17 * i1)) (51 + 17 * i1 + 4 + tn (s_X6_wishAt r (51 + 17 * i1) 0)) ((ft_ar (s_X6_dropFirst (va_up (va_up r (51 + 17 * i1 + 1) (s_X7_minutesFor (s_X6_wishAt r (51 + 17 * i1) 0))) (51 + 17 * i1 + 1) (((va_up r (51 + 17 * i1 + 1) (s_X7_minutesFor (s_X6_wishAt r (51 + 17 * i1) 0))) (51 + 17 * i1 + 1)) - 1)) (51 + 17 * i1)) (51 + 17 * i1 + 4) 4 (tn (s_X6_wishAt r (51 + 17 * i1) 0))) - 1)) (51 + 17 * i1 + 0)) + (ft_ar (va_up (s_X6_dropFirst (va_up (va_up r (51 + 17 * i1 + 1) (s_X7_minutesFor (s_X6_wishAt r (51 + 17 * i1) 0))) (51 + 17 * i1 + 1) (((va_up r (51 + 17 * i1 + 1) (s_X7_minutesFor (s_X6_wishAt r (51 + 17 * i1) 0))) (51 + 17 * i1 + 1)) - 1)) (51 + 17 * i1)) (51 + 17 * i1 + 4 + tn (s_X6_wishAt r (51 + 17 * i1) 0)) ((ft_ar (s_X6_dropFirst (va_up (va_up r (51 + 17 * i1 + 1) (s_X7_minutesFor (s_X6_wishAt r (51 + 17 * i1) 0))) (51 + 17 * i1 + 1) (((va_up r (51 + 17 * i1 + 1) (s_X7_minutesFor (s_X6_wishAt r (51 + 17 * i1) 0))) (51 + 17 * i1 + 1)) - 1)) (51 + 17 * i1)) (51 + 17 * i1 + 4) 4 (tn (s_X6_wishAt r (51 + 17 * i1) 0))) - 1)) (8) 4 (tn (s_X6_wishAt r (51 + 17 * i1) 0))))) (12 + tn (s_X6_wishAt r (51 + 17 * i1) 0)) ((ft_ar (va_up (va_up (s_X6_dropFirst (va_up (va_up r (51 + 17 * i1 + 1) (s_X7_minutesFor (s_X6_wishAt r (51 + 17 * i1) 0))) (51 + 17 * i1 + 1) (((va_up r (51 + 17 * i1 + 1) (s_X7_minutesFor (s_X6_wishAt r (51 + 17 * i1) 0))) (51 + 17 * i1 + 1)) - 1)) (51 + 17 * i1)) (51 + 17 * i1 + 4 + tn (s_X6_wishAt r (51 + 17 * i1) 0)) ((ft_ar (s_X6_dropFirst (va_up (va_up r (51 + 17 * i1 + 1) (s_X7_minutesFor (s_X6_wishAt r (51 + 17 * i1) 0))) (51 + 17 * i1 + 1) (((va_up r (51 + 17 * i1 + 1) (s_X7_minutesFor (s_X6_wishAt r (51 + 17 * i1) 0))) (51 + 17 * i1 + 1)) - 1)) (51 + 17 * i1)) (51 + 17 * i1 + 4) 4 (tn (s_X6_wishAt r (51 + 17 * i1) 0))) - 1)) (51 + 17 * i1 + 0) (((va_up (s_X6_dropFirst (va_up (va_up r (51 + 17 * i1 + 1) (s_X7_minutesFor (s_X6_wishAt r (51 + 17 * i1) 0))) (51 + 17 * i1 + 1) (((va_up r (51 + 17 * i1 + 1) (s_X7_minutesFor (s_X6_wishAt r (51 + 17 * i1) 0))) (51 + 17 * i1 + 1)) - 1)) (51 + 17 * i1)) (51 + 17 * i1 + 4 + tn (s_X6_wishAt r (51 + 17 * i1) 0)) ((ft_ar (s_X6_dropFirst (va_up (va_up r (51 + 17 * i1 + 1) (s_X7_minutesFor (s_X6_wishAt r (51 + 17 * i1) 0))) (51 + 17 * i1 + 1) (((va_up r (51 + 17 * i1 + 1) (s_X7_minutesFor (s_X6_wishAt r (51 + 17 * i1) 0))) (51 + 17 * i1 + 1)) - 1)) (51 + 17 * i1)) (51 + 17 * i1 + 4) 4 (tn (s_X6_wishAt r (51 + 17 * i1) 0))) - 1)) (51 + 17 * i1 + 0)) + (ft_ar (va_up (s_X6_dropFirst (va_up (va_up r (51 + 17 * i1 + 1) (s_X7_minutesFor (s_X6_wishAt r (51 + 17 * i1) 0))) (51 + 17 * i1 + 1) (((va_up r (51 + 17 * i1 + 1) (s_X7_minutesFor (s_X6_wishAt r (51 + 17 * i1) 0))) (51 + 17 * i1 + 1)) - 1)) (51 + 17 * i1)) (51 + 17 * i1 + 4 + tn (s_X6_wishAt r (51 + 17 * i1) 0)) ((ft_ar (s_X6_dropFirst (va_up (va_up r (51 + 17 * i1 + 1) (s_X7_minutesFor (s_X6_wishAt r (51 + 17 * i1) 0))) (51 + 17 * i1 + 1) (((va_up r (51 + 17 * i1 + 1) (s_X7_minutesFor (s_X6_wishAt r (51 + 17 * i1) 0))) (51 + 17 * i1 + 1)) - 1)) (51 + 17 * i1)) (51 + 17 * i1 + 4) 4 (tn (s_X6_wishAt r (51 + 17 * i1) 0))) - 1)) (8) 4 (tn (s_X6_wishAt r (51 + 17 * i1) 0))))) (12) 4 (tn (s_X6_wishAt r (51 + 17 * i1) 0))) + 1)) 5) + 1)) (ty := .int) (C := RX4) (T := TX4) (N := 12) hx hb hts (by decide +kernel) tyX4 tyX4_ok nmX4 hown hK.1 hP hD hS 0 (ft_get' (by decide) rfl) rfl 9 (by decide) (hts (.fieldLink RX4 60 "FoodTruckRota$Square" "served" "I") (by decide +kernel)) (fun _ h9 => h9) rfl (by decide +kernel) rfl rfl (Nat.le_of_ble_eq_true rfl) dX4_letWork_117 (fun H locs hP hD hS => ?_)
          have hP := ft_cast hP ft_S_p5
          have hD := ft_castD hD ft_S_p5
          have hP : va_P dC vwCl (ft_WS ad k (va_up (va_up (va_up (va_up (s_X6_dropFirst (va_up (va_up r (51 + 17 * i1 + 1) (s_X7_minutesFor (s_X6_wishAt r (51 + 17 * i1) 0))) (51 + 17 * i1 + 1) (((va_up r (51 + 17 * i1 + 1) (s_X7_minutesFor (s_X6_wishAt r (51 + 17 * i1) 0))) (51 + 17 * i1 + 1)) - 1)) (51 + 17 * i1)) (51 + 17 * i1 + 4 + tn (s_X6_wishAt r (51 + 17 * i1) 0)) ((ft_ar (s_X6_dropFirst (va_up (va_up r (51 + 17 * i1 + 1) (s_X7_minutesFor (s_X6_wishAt r (51 + 17 * i1) 0))) (51 + 17 * i1 + 1) (((va_up r (51 + 17 * i1 + 1) (s_X7_minutesFor (s_X6_wishAt r (51 + 17 * i1) 0))) (51 + 17 * i1 + 1)) - 1)) (51 + 17 * i1)) (51 + 17 * i1 + 4) 4 (tn (s_X6_wishAt r (51 + 17 * i1) 0))) - 1)) (51 + 17 * i1 + 0) (((va_up (s_X6_dropFirst (va_up (va_up r (51 + 17 * i1 + 1) (s_X7_minutesFor (s_X6_wishAt r (51 + 17 * i1) 0))) (51 + 17 * i1 + 1) (((va_up r (51 + 17 * i1 + 1) (s_X7_minutesFor (s_X6_wishAt r (51 + 17 * i1) 0))) (51 + 17 * i1 + 1)) - 1)) (51 + 17 * i1)) (51 + 17 * i1 + 4 + tn (s_X6_wishAt r (51 + 17 * i1) 0)) ((ft_ar (s_X6_dropFirst (va_up (va_up r (51 + 17 * i1 + 1) (s_X7_minutesFor (s_X6_wishAt r (51 + 17 * i1) 0))) (51 + 17 * i1 + 1) (((va_up r (51 + 17 * i1 + 1) (s_X7_minutesFor (s_X6_wishAt r (51 + 17 * i1) 0))) (51 + 17 * i1 + 1)) - 1)) (51 + 17 * i1)) (51 + 17 * i1 + 4) 4 (tn (s_X6_wishAt r (51 + 17 * i1) 0))) - 1)) (51 + 17 * i1 + 0)) + (ft_ar (va_up (s_X6_dropFirst (va_up (va_up r (51 + 17 * i1 + 1) (s_X7_minutesFor (s_X6_wishAt r (51 + 17 * i1) 0))) (51 + 17 * i1 + 1) (((va_up r (51 + 17 * i1 + 1) (s_X7_minutesFor (s_X6_wishAt r (51 + 17 * i1) 0))) (51 + 17 * i1 + 1)) - 1)) (51 + 17 * i1)) (51 + 17 * i1 + 4 + tn (s_X6_wishAt r (51 + 17 * i1) 0)) ((ft_ar (s_X6_dropFirst (va_up (va_up r (51 + 17 * i1 + 1) (s_X7_minutesFor (s_X6_wishAt r (51 + 17 * i1) 0))) (51 + 17 * i1 + 1) (((va_up r (51 + 17 * i1 + 1) (s_X7_minutesFor (s_X6_wishAt r (51 + 17 * i1) 0))) (51 + 17 * i1 + 1)) - 1)) (51 + 17 * i1)) (51 + 17 * i1 + 4) 4 (tn (s_X6_wishAt r (51 + 17 * i1) 0))) - 1)) (8) 4 (tn (s_X6_wishAt r (51 + 17 * i1) 0))))) (12 + tn (s_X6_wishAt r (51 + 17 * i1) 0)) ((ft_ar (va_up (va_up (s_X6_dropFirst (va_up (va_up r (51 + 17 * i1 + 1) (s_X7_minutesFor (s_X6_wishAt r (51 + 17 * i1) 0))) (51 + 17 * i1 + 1) (((va_up r (51 + 17 * i1 + 1) (s_X7_minutesFor (s_X6_wishAt r (51 + 17 * i1) 0))) (51 + 17 * i1 + 1)) - 1)) (51 + 17 * i1)) (51 + 17 * i1 + 4 + tn (s_X6_wishAt r (51 + 17 * i1) 0)) ((ft_ar (s_X6_dropFirst (va_up (va_up r (51 + 17 * i1 + 1) (s_X7_minutesFor (s_X6_wishAt r (51 + 17 * i1) 0))) (51 + 17 * i1 + 1) (((va_up r (51 + 17 * i1 + 1) (s_X7_minutesFor (s_X6_wishAt r (51 + 17 * i1) 0))) (51 + 17 * i1 + 1)) - 1)) (51 + 17 * i1)) (51 + 17 * i1 + 4) 4 (tn (s_X6_wishAt r (51 + 17 * i1) 0))) - 1)) (51 + 17 * i1 + 0) (((va_up (s_X6_dropFirst (va_up (va_up r (51 + 17 * i1 + 1) (s_X7_minutesFor (s_X6_wishAt r (51 + 17 * i1) 0))) (51 + 17 * i1 + 1) (((va_up r (51 + 17 * i1 + 1) (s_X7_minutesFor (s_X6_wishAt r (51 + 17 * i1) 0))) (51 + 17 * i1 + 1)) - 1)) (51 + 17 * i1)) (51 + 17 * i1 + 4 + tn (s_X6_wishAt r (51 + 17 * i1) 0)) ((ft_ar (s_X6_dropFirst (va_up (va_up r (51 + 17 * i1 + 1) (s_X7_minutesFor (s_X6_wishAt r (51 + 17 * i1) 0))) (51 + 17 * i1 + 1) (((va_up r (51 + 17 * i1 + 1) (s_X7_minutesFor (s_X6_wishAt r (51 + 17 * i1) 0))) (51 + 17 * i1 + 1)) - 1)) (51 + 17 * i1)) (51 + 17 * i1 + 4) 4 (tn (s_X6_wishAt r (51 + 17 * i1) 0))) - 1)) (51 + 17 * i1 + 0)) + (ft_ar (va_up (s_X6_dropFirst (va_up (va_up r (51 + 17 * i1 + 1) (s_X7_minutesFor (s_X6_wishAt r (51 + 17 * i1) 0))) (51 + 17 * i1 + 1) (((va_up r (51 + 17 * i1 + 1) (s_X7_minutesFor (s_X6_wishAt r (51 + 17 * i1) 0))) (51 + 17 * i1 + 1)) - 1)) (51 + 17 * i1)) (51 + 17 * i1 + 4 + tn (s_X6_wishAt r (51 + 17 * i1) 0)) ((ft_ar (s_X6_dropFirst (va_up (va_up r (51 + 17 * i1 + 1) (s_X7_minutesFor (s_X6_wishAt r (51 + 17 * i1) 0))) (51 + 17 * i1 + 1) (((va_up r (51 + 17 * i1 + 1) (s_X7_minutesFor (s_X6_wishAt r (51 + 17 * i1) 0))) (51 + 17 * i1 + 1)) - 1)) (51 + 17 * i1)) (51 + 17 * i1 + 4) 4 (tn (s_X6_wishAt r (51 + 17 * i1) 0))) - 1)) (8) 4 (tn (s_X6_wishAt r (51 + 17 * i1) 0))))) (12) 4 (tn (s_X6_wishAt r (51 + 17 * i1) 0))) + 1)) 5 (((va_up (va_up (va_up (s_X6_dropFirst (va_up (va_up r (51 + 17 * i1 + 1) (s_X7_minutesFor (s_X6_wishAt r (51 + 17 * i1) 0))) (51 + 17 * i1 + 1) (((va_up r (51 + 17 * i1 + 1) (s_X7_minutesFor (s_X6_wishAt r (51 + 17 * i1) 0))) (51 + 17 * i1 + 1)) - 1)) (51 + 17 * i1)) (51 + 17 * i1 + 4 + tn (s_X6_wishAt r (51 + 17 * i1) 0)) ((ft_ar (s_X6_dropFirst (va_up (va_up r (51 + 17 * i1 + 1) (s_X7_minutesFor (s_X6_wishAt r (51 + 17 * i1) 0))) (51 + 17 * i1 + 1) (((va_up r (51 + 17 * i1 + 1) (s_X7_minutesFor (s_X6_wishAt r (51 + 17 * i1) 0))) (51 + 17 * i1 + 1)) - 1)) (51 + 17 * i1)) (51 + 17 * i1 + 4) 4 (tn (s_X6_wishAt r (51 + 17 * i1) 0))) - 1)) (51 + 17 * i1 + 0) (((va_up (s_X6_dropFirst (va_up (va_up r (51 + 17 * i1 + 1) (s_X7_minutesFor (s_X6_wishAt r (51 + 17 * i1) 0))) (51 + 17 * i1 + 1) (((va_up r (51 + 17 * i1 + 1) (s_X7_minutesFor (s_X6_wishAt r (51 + 17 * i1) 0))) (51 + 17 * i1 + 1)) - 1)) (51 + 17 * i1)) (51 + 17 * i1 + 4 + tn (s_X6_wishAt r (51 + 17 * i1) 0)) ((ft_ar (s_X6_dropFirst (va_up (va_up r (51 + 17 * i1 + 1) (s_X7_minutesFor (s_X6_wishAt r (51 + 17 * i1) 0))) (51 + 17 * i1 + 1) (((va_up r (51 + 17 * i1 + 1) (s_X7_minutesFor (s_X6_wishAt r (51 + 17 * i1) 0))) (51 + 17 * i1 + 1)) - 1)) (51 + 17 * i1)) (51 + 17 * i1 + 4) 4 (tn (s_X6_wishAt r (51 + 17 * i1) 0))) - 1)) (51 + 17 * i1 + 0)) + (ft_ar (va_up (s_X6_dropFirst (va_up (va_up r (51 + 17 * i1 + 1) (s_X7_minutesFor (s_X6_wishAt r (51 + 17 * i1) 0))) (51 + 17 * i1 + 1) (((va_up r (51 + 17 * i1 + 1) (s_X7_minutesFor (s_X6_wishAt r (51 + 17 * i1) 0))) (51 + 17 * i1 + 1)) - 1)) (51 + 17 * i1)) (51 + 17 * i1 + 4 + tn (s_X6_wishAt r (51 + 17 * i1) 0)) ((ft_ar (s_X6_dropFirst (va_up (va_up r (51 + 17 * i1 + 1) (s_X7_minutesFor (s_X6_wishAt r (51 + 17 * i1) 0))) (51 + 17 * i1 + 1) (((va_up r (51 + 17 * i1 + 1) (s_X7_minutesFor (s_X6_wishAt r (51 + 17 * i1) 0))) (51 + 17 * i1 + 1)) - 1)) (51 + 17 * i1)) (51 + 17 * i1 + 4) 4 (tn (s_X6_wishAt r (51 + 17 * i1) 0))) - 1)) (8) 4 (tn (s_X6_wishAt r (51 + 17 * i1) 0))))) (12 + tn (s_X6_wishAt r (51 + 17 * i1) 0)) ((ft_ar (va_up (va_up (s_X6_dropFirst (va_up (va_up r (51 + 17 * i1 + 1) (s_X7_minutesFor (s_X6_wishAt r (51 + 17 * i1) 0))) (51 + 17 * i1 + 1) (((va_up r (51 + 17 * i1 + 1) (s_X7_minutesFor (s_X6_wishAt r (51 + 17 * i1) 0))) (51 + 17 * i1 + 1)) - 1)) (51 + 17 * i1)) (51 + 17 * i1 + 4 + tn (s_X6_wishAt r (51 + 17 * i1) 0)) ((ft_ar (s_X6_dropFirst (va_up (va_up r (51 + 17 * i1 + 1) (s_X7_minutesFor (s_X6_wishAt r (51 + 17 * i1) 0))) (51 + 17 * i1 + 1) (((va_up r (51 + 17 * i1 + 1) (s_X7_minutesFor (s_X6_wishAt r (51 + 17 * i1) 0))) (51 + 17 * i1 + 1)) - 1)) (51 + 17 * i1)) (51 + 17 * i1 + 4) 4 (tn (s_X6_wishAt r (51 + 17 * i1) 0))) - 1)) (51 + 17 * i1 + 0) (((va_up (s_X6_dropFirst (va_up (va_up r (51 + 17 * i1 + 1) (s_X7_minutesFor (s_X6_wishAt r (51 + 17 * i1) 0))) (51 + 17 * i1 + 1) (((va_up r (51 + 17 * i1 + 1) (s_X7_minutesFor (s_X6_wishAt r (51 + 17 * i1) 0))) (51 + 17 * i1 + 1)) - 1)) (51 + 17 * i1)) (51 + 17 * i1 + 4 + tn (s_X6_wishAt r (51 + 17 * i1) 0)) ((ft_ar (s_X6_dropFirst (va_up (va_up r (51 + 17 * i1 + 1) (s_X7_minutesFor (s_X6_wishAt r (51 + 17 * i1) 0))) (51 + 17 * i1 + 1) (((va_up r (51 + 17 * i1 + 1) (s_X7_minutesFor (s_X6_wishAt r (51 + 17 * i1) 0))) (51 + 17 * i1 + 1)) - 1)) (51 + 17 * i1)) (51 + 17 * i1 + 4) 4 (tn (s_X6_wishAt r (51 + 17 * i1) 0))) - 1)) (51 + 17 * i1 + 0)) + (ft_ar (va_up (s_X6_dropFirst (va_up (va_up r (51 + 17 * i1 + 1) (s_X7_minutesFor (s_X6_wishAt r (51 + 17 * i1) 0))) (51 + 17 * i1 + 1) (((va_up r (51 + 17 * i1 + 1) (s_X7_minutesFor (s_X6_wishAt r (51 + 17 * i1) 0))) (51 + 17 * i1 + 1)) - 1)) (51 + 17 * i1)) (51 + 17 * i1 + 4 + tn (s_X6_wishAt r (51 + 17 * i1) 0)) ((ft_ar (s_X6_dropFirst (va_up (va_up r (51 + 17 * i1 + 1) (s_X7_minutesFor (s_X6_wishAt r (51 + 17 * i1) 0))) (51 + 17 * i1 + 1) (((va_up r (51 + 17 * i1 + 1) (s_X7_minutesFor (s_X6_wishAt r (51 + 17 * i1) 0))) (51 + 17 * i1 + 1)) - 1)) (51 + 17 * i1)) (51 + 17 * i1 + 4) 4 (tn (s_X6_wishAt r (51 + 17 * i1) 0))) - 1)) (8) 4 (tn (s_X6_wishAt r (51 + 17 * i1) 0))))) (12) 4 (tn (s_X6_wishAt r (51 + 17 * i1) 0))) + 1)) 5) + 1))) H := hP
          have hD : va_D (ft_A 23 ad) (ft_WS ad k (va_up (va_up (va_up (va_up (s_X6_dropFirst (va_up (va_up r (51 + 17 * i1 + 1) (s_X7_minutesFor (s_X6_wishAt r (51 + 17 * i1) 0))) (51 + 17 * i1 + 1) (((va_up r (51 + 17 * i1 + 1) (s_X7_minutesFor (s_X6_wishAt r (51 + 17 * i1) 0))) (51 + 17 * i1 + 1)) - 1)) (51 + 17 * i1)) (51 + 17 * i1 + 4 + tn (s_X6_wishAt r (51 + 17 * i1) 0)) ((ft_ar (s_X6_dropFirst (va_up (va_up r (51 + 17 * i1 + 1) (s_X7_minutesFor (s_X6_wishAt r (51 + 17 * i1) 0))) (51 + 17 * i1 + 1) (((va_up r (51 + 17 * i1 + 1) (s_X7_minutesFor (s_X6_wishAt r (51 + 17 * i1) 0))) (51 + 17 * i1 + 1)) - 1)) (51 + 17 * i1)) (51 + 17 * i1 + 4) 4 (tn (s_X6_wishAt r (51 + 17 * i1) 0))) - 1)) (51 + 17 * i1 + 0) (((va_up (s_X6_dropFirst (va_up (va_up r (51 + 17 * i1 + 1) (s_X7_minutesFor (s_X6_wishAt r (51 + 17 * i1) 0))) (51 + 17 * i1 + 1) (((va_up r (51 + 17 * i1 + 1) (s_X7_minutesFor (s_X6_wishAt r (51 + 17 * i1) 0))) (51 + 17 * i1 + 1)) - 1)) (51 + 17 * i1)) (51 + 17 * i1 + 4 + tn (s_X6_wishAt r (51 + 17 * i1) 0)) ((ft_ar (s_X6_dropFirst (va_up (va_up r (51 + 17 * i1 + 1) (s_X7_minutesFor (s_X6_wishAt r (51 + 17 * i1) 0))) (51 + 17 * i1 + 1) (((va_up r (51 + 17 * i1 + 1) (s_X7_minutesFor (s_X6_wishAt r (51 + 17 * i1) 0))) (51 + 17 * i1 + 1)) - 1)) (51 + 17 * i1)) (51 + 17 * i1 + 4) 4 (tn (s_X6_wishAt r (51 + 17 * i1) 0))) - 1)) (51 + 17 * i1 + 0)) + (ft_ar (va_up (s_X6_dropFirst (va_up (va_up r (51 + 17 * i1 + 1) (s_X7_minutesFor (s_X6_wishAt r (51 + 17 * i1) 0))) (51 + 17 * i1 + 1) (((va_up r (51 + 17 * i1 + 1) (s_X7_minutesFor (s_X6_wishAt r (51 + 17 * i1) 0))) (51 + 17 * i1 + 1)) - 1)) (51 + 17 * i1)) (51 + 17 * i1 + 4 + tn (s_X6_wishAt r (51 + 17 * i1) 0)) ((ft_ar (s_X6_dropFirst (va_up (va_up r (51 + 17 * i1 + 1) (s_X7_minutesFor (s_X6_wishAt r (51 + 17 * i1) 0))) (51 + 17 * i1 + 1) (((va_up r (51 + 17 * i1 + 1) (s_X7_minutesFor (s_X6_wishAt r (51 + 17 * i1) 0))) (51 + 17 * i1 + 1)) - 1)) (51 + 17 * i1)) (51 + 17 * i1 + 4) 4 (tn (s_X6_wishAt r (51 + 17 * i1) 0))) - 1)) (8) 4 (tn (s_X6_wishAt r (51 + 17 * i1) 0))))) (12 + tn (s_X6_wishAt r (51 + 17 * i1) 0)) ((ft_ar (va_up (va_up (s_X6_dropFirst (va_up (va_up r (51 + 17 * i1 + 1) (s_X7_minutesFor (s_X6_wishAt r (51 + 17 * i1) 0))) (51 + 17 * i1 + 1) (((va_up r (51 + 17 * i1 + 1) (s_X7_minutesFor (s_X6_wishAt r (51 + 17 * i1) 0))) (51 + 17 * i1 + 1)) - 1)) (51 + 17 * i1)) (51 + 17 * i1 + 4 + tn (s_X6_wishAt r (51 + 17 * i1) 0)) ((ft_ar (s_X6_dropFirst (va_up (va_up r (51 + 17 * i1 + 1) (s_X7_minutesFor (s_X6_wishAt r (51 + 17 * i1) 0))) (51 + 17 * i1 + 1) (((va_up r (51 + 17 * i1 + 1) (s_X7_minutesFor (s_X6_wishAt r (51 + 17 * i1) 0))) (51 + 17 * i1 + 1)) - 1)) (51 + 17 * i1)) (51 + 17 * i1 + 4) 4 (tn (s_X6_wishAt r (51 + 17 * i1) 0))) - 1)) (51 + 17 * i1 + 0) (((va_up (s_X6_dropFirst (va_up (va_up r (51 + 17 * i1 + 1) (s_X7_minutesFor (s_X6_wishAt r (51 + 17 * i1) 0))) (51 + 17 * i1 + 1) (((va_up r (51 + 17 * i1 + 1) (s_X7_minutesFor (s_X6_wishAt r (51 + 17 * i1) 0))) (51 + 17 * i1 + 1)) - 1)) (51 + 17 * i1)) (51 + 17 * i1 + 4 + tn (s_X6_wishAt r (51 + 17 * i1) 0)) ((ft_ar (s_X6_dropFirst (va_up (va_up r (51 + 17 * i1 + 1) (s_X7_minutesFor (s_X6_wishAt r (51 + 17 * i1) 0))) (51 + 17 * i1 + 1) (((va_up r (51 + 17 * i1 + 1) (s_X7_minutesFor (s_X6_wishAt r (51 + 17 * i1) 0))) (51 + 17 * i1 + 1)) - 1)) (51 + 17 * i1)) (51 + 17 * i1 + 4) 4 (tn (s_X6_wishAt r (51 + 17 * i1) 0))) - 1)) (51 + 17 * i1 + 0)) + (ft_ar (va_up (s_X6_dropFirst (va_up (va_up r (51 + 17 * i1 + 1) (s_X7_minutesFor (s_X6_wishAt r (51 + 17 * i1) 0))) (51 + 17 * i1 + 1) (((va_up r (51 + 17 * i1 + 1) (s_X7_minutesFor (s_X6_wishAt r (51 + 17 * i1) 0))) (51 + 17 * i1 + 1)) - 1)) (51 + 17 * i1)) (51 + 17 * i1 + 4 + tn (s_X6_wishAt r (51 + 17 * i1) 0)) ((ft_ar (s_X6_dropFirst (va_up (va_up r (51 + 17 * i1 + 1) (s_X7_minutesFor (s_X6_wishAt r (51 + 17 * i1) 0))) (51 + 17 * i1 + 1) (((va_up r (51 + 17 * i1 + 1) (s_X7_minutesFor (s_X6_wishAt r (51 + 17 * i1) 0))) (51 + 17 * i1 + 1)) - 1)) (51 + 17 * i1)) (51 + 17 * i1 + 4) 4 (tn (s_X6_wishAt r (51 + 17 * i1) 0))) - 1)) (8) 4 (tn (s_X6_wishAt r (51 + 17 * i1) 0))))) (12) 4 (tn (s_X6_wishAt r (51 + 17 * i1) 0))) + 1)) 5 (((va_up (va_up (va_up (s_X6_dropFirst (va_up (va_up r (51 + 17 * i1 + 1) (s_X7_minutesFor (s_X6_wishAt r (51 + 17 * i1) 0))) (51 + 17 * i1 + 1) (((va_up r (51 + 17 * i1 + 1) (s_X7_minutesFor (s_X6_wishAt r (51 + 17 * i1) 0))) (51 + 17 * i1 + 1)) - 1)) (51 + 17 * i1)) (51 + 17 * i1 + 4 + tn (s_X6_wishAt r (51 + 17 * i1) 0)) ((ft_ar (s_X6_dropFirst (va_up (va_up r (51 + 17 * i1 + 1) (s_X7_minutesFor (s_X6_wishAt r (51 + 17 * i1) 0))) (51 + 17 * i1 + 1) (((va_up r (51 + 17 * i1 + 1) (s_X7_minutesFor (s_X6_wishAt r (51 + 17 * i1) 0))) (51 + 17 * i1 + 1)) - 1)) (51 + 17 * i1)) (51 + 17 * i1 + 4) 4 (tn (s_X6_wishAt r (51 + 17 * i1) 0))) - 1)) (51 + 17 * i1 + 0) (((va_up (s_X6_dropFirst (va_up (va_up r (51 + 17 * i1 + 1) (s_X7_minutesFor (s_X6_wishAt r (51 + 17 * i1) 0))) (51 + 17 * i1 + 1) (((va_up r (51 + 17 * i1 + 1) (s_X7_minutesFor (s_X6_wishAt r (51 + 17 * i1) 0))) (51 + 17 * i1 + 1)) - 1)) (51 + 17 * i1)) (51 + 17 * i1 + 4 + tn (s_X6_wishAt r (51 + 17 * i1) 0)) ((ft_ar (s_X6_dropFirst (va_up (va_up r (51 + 17 * i1 + 1) (s_X7_minutesFor (s_X6_wishAt r (51 + 17 * i1) 0))) (51 + 17 * i1 + 1) (((va_up r (51 + 17 * i1 + 1) (s_X7_minutesFor (s_X6_wishAt r (51 + 17 * i1) 0))) (51 + 17 * i1 + 1)) - 1)) (51 + 17 * i1)) (51 + 17 * i1 + 4) 4 (tn (s_X6_wishAt r (51 + 17 * i1) 0))) - 1)) (51 + 17 * i1 + 0)) + (ft_ar (va_up (s_X6_dropFirst (va_up (va_up r (51 + 17 * i1 + 1) (s_X7_minutesFor (s_X6_wishAt r (51 + 17 * i1) 0))) (51 + 17 * i1 + 1) (((va_up r (51 + 17 * i1 + 1) (s_X7_minutesFor (s_X6_wishAt r (51 + 17 * i1) 0))) (51 + 17 * i1 + 1)) - 1)) (51 + 17 * i1)) (51 + 17 * i1 + 4 + tn (s_X6_wishAt r (51 + 17 * i1) 0)) ((ft_ar (s_X6_dropFirst (va_up (va_up r (51 + 17 * i1 + 1) (s_X7_minutesFor (s_X6_wishAt r (51 + 17 * i1) 0))) (51 + 17 * i1 + 1) (((va_up r (51 + 17 * i1 + 1) (s_X7_minutesFor (s_X6_wishAt r (51 + 17 * i1) 0))) (51 + 17 * i1 + 1)) - 1)) (51 + 17 * i1)) (51 + 17 * i1 + 4) 4 (tn (s_X6_wishAt r (51 + 17 * i1) 0))) - 1)) (8) 4 (tn (s_X6_wishAt r (51 + 17 * i1) 0))))) (12 + tn (s_X6_wishAt r (51 + 17 * i1) 0)) ((ft_ar (va_up (va_up (s_X6_dropFirst (va_up (va_up r (51 + 17 * i1 + 1) (s_X7_minutesFor (s_X6_wishAt r (51 + 17 * i1) 0))) (51 + 17 * i1 + 1) (((va_up r (51 + 17 * i1 + 1) (s_X7_minutesFor (s_X6_wishAt r (51 + 17 * i1) 0))) (51 + 17 * i1 + 1)) - 1)) (51 + 17 * i1)) (51 + 17 * i1 + 4 + tn (s_X6_wishAt r (51 + 17 * i1) 0)) ((ft_ar (s_X6_dropFirst (va_up (va_up r (51 + 17 * i1 + 1) (s_X7_minutesFor (s_X6_wishAt r (51 + 17 * i1) 0))) (51 + 17 * i1 + 1) (((va_up r (51 + 17 * i1 + 1) (s_X7_minutesFor (s_X6_wishAt r (51 + 17 * i1) 0))) (51 + 17 * i1 + 1)) - 1)) (51 + 17 * i1)) (51 + 17 * i1 + 4) 4 (tn (s_X6_wishAt r (51 + 17 * i1) 0))) - 1)) (51 + 17 * i1 + 0) (((va_up (s_X6_dropFirst (va_up (va_up r (51 + 17 * i1 + 1) (s_X7_minutesFor (s_X6_wishAt r (51 + 17 * i1) 0))) (51 + 17 * i1 + 1) (((va_up r (51 + 17 * i1 + 1) (s_X7_minutesFor (s_X6_wishAt r (51 + 17 * i1) 0))) (51 + 17 * i1 + 1)) - 1)) (51 + 17 * i1)) (51 + 17 * i1 + 4 + tn (s_X6_wishAt r (51 + 17 * i1) 0)) ((ft_ar (s_X6_dropFirst (va_up (va_up r (51 + 17 * i1 + 1) (s_X7_minutesFor (s_X6_wishAt r (51 + 17 * i1) 0))) (51 + 17 * i1 + 1) (((va_up r (51 + 17 * i1 + 1) (s_X7_minutesFor (s_X6_wishAt r (51 + 17 * i1) 0))) (51 + 17 * i1 + 1)) - 1)) (51 + 17 * i1)) (51 + 17 * i1 + 4) 4 (tn (s_X6_wishAt r (51 + 17 * i1) 0))) - 1)) (51 + 17 * i1 + 0)) + (ft_ar (va_up (s_X6_dropFirst (va_up (va_up r (51 + 17 * i1 + 1) (s_X7_minutesFor (s_X6_wishAt r (51 + 17 * i1) 0))) (51 + 17 * i1 + 1) (((va_up r (51 + 17 * i1 + 1) (s_X7_minutesFor (s_X6_wishAt r (51 + 17 * i1) 0))) (51 + 17 * i1 + 1)) - 1)) (51 + 17 * i1)) (51 + 17 * i1 + 4 + tn (s_X6_wishAt r (51 + 17 * i1) 0)) ((ft_ar (s_X6_dropFirst (va_up (va_up r (51 + 17 * i1 + 1) (s_X7_minutesFor (s_X6_wishAt r (51 + 17 * i1) 0))) (51 + 17 * i1 + 1) (((va_up r (51 + 17 * i1 + 1) (s_X7_minutesFor (s_X6_wishAt r (51 + 17 * i1) 0))) (51 + 17 * i1 + 1)) - 1)) (51 + 17 * i1)) (51 + 17 * i1 + 4) 4 (tn (s_X6_wishAt r (51 + 17 * i1) 0))) - 1)) (8) 4 (tn (s_X6_wishAt r (51 + 17 * i1) 0))))) (12) 4 (tn (s_X6_wishAt r (51 + 17 * i1) 0))) + 1)) 5) + 1))) := hD
          exact W.vret hx hb hr (fun t ht hW => ⟨⟨(va_up (va_up (va_up (va_up (s_X6_dropFirst (va_up (va_up r (51 + 17 * i1 + 1) (s_X7_minutesFor (s_X6_wishAt r (51 + 17 * i1) 0))) (51 + 17 * i1 + 1) (((va_up r (51 + 17 * i1 + 1) (s_X7_minutesFor (s_X6_wishAt r (51 + 17 * i1) 0))) (51 + 17 * i1 + 1)) - 1)) (51 + 17 * i1)) (51 + 17 * i1 + 4 + tn (s_X6_wishAt r (51 + 17 * i1) 0)) ((ft_ar (s_X6_dropFirst (va_up (va_up r (51 + 17 * i1 + 1) (s_X7_minutesFor (s_X6_wishAt r (51 + 17 * i1) 0))) (51 + 17 * i1 + 1) (((va_up r (51 + 17 * i1 + 1) (s_X7_minutesFor (s_X6_wishAt r (51 + 17 * i1) 0))) (51 + 17 * i1 + 1)) - 1)) (51 + 17 * i1)) (51 + 17 * i1 + 4) 4 (tn (s_X6_wishAt r (51 + 17 * i1) 0))) - 1)) (51 + 17 * i1 + 0) (((va_up (s_X6_dropFirst (va_up (va_up r (51 + 17 * i1 + 1) (s_X7_minutesFor (s_X6_wishAt r (51 + 17 * i1) 0))) (51 + 17 * i1 + 1) (((va_up r (51 + 17 * i1 + 1) (s_X7_minutesFor (s_X6_wishAt r (51 + 17 * i1) 0))) (51 + 17 * i1 + 1)) - 1)) (51 + 17 * i1)) (51 + 17 * i1 + 4 + tn (s_X6_wishAt r (51 + 17 * i1) 0)) ((ft_ar (s_X6_dropFirst (va_up (va_up r (51 + 17 * i1 + 1) (s_X7_minutesFor (s_X6_wishAt r (51 + 17 * i1) 0))) (51 + 17 * i1 + 1) (((va_up r (51 + 17 * i1 + 1) (s_X7_minutesFor (s_X6_wishAt r (51 + 17 * i1) 0))) (51 + 17 * i1 + 1)) - 1)) (51 + 17 * i1)) (51 + 17 * i1 + 4) 4 (tn (s_X6_wishAt r (51 + 17 * i1) 0))) - 1)) (51 + 17 * i1 + 0)) + (ft_ar (va_up (s_X6_dropFirst (va_up (va_up r (51 + 17 * i1 + 1) (s_X7_minutesFor (s_X6_wishAt r (51 + 17 * i1) 0))) (51 + 17 * i1 + 1) (((va_up r (51 + 17 * i1 + 1) (s_X7_minutesFor (s_X6_wishAt r (51 + 17 * i1) 0))) (51 + 17 * i1 + 1)) - 1)) (51 + 17 * i1)) (51 + 17 * i1 + 4 + tn (s_X6_wishAt r (51 + 17 * i1) 0)) ((ft_ar (s_X6_dropFirst (va_up (va_up r (51 + 17 * i1 + 1) (s_X7_minutesFor (s_X6_wishAt r (51 + 17 * i1) 0))) (51 + 17 * i1 + 1) (((va_up r (51 + 17 * i1 + 1) (s_X7_minutesFor (s_X6_wishAt r (51 + 17 * i1) 0))) (51 + 17 * i1 + 1)) - 1)) (51 + 17 * i1)) (51 + 17 * i1 + 4) 4 (tn (s_X6_wishAt r (51 + 17 * i1) 0))) - 1)) (8) 4 (tn (s_X6_wishAt r (51 + 17 * i1) 0))))) (12 + tn (s_X6_wishAt r (51 + 17 * i1) 0)) ((ft_ar (va_up (va_up (s_X6_dropFirst (va_up (va_up r (51 + 17 * i1 + 1) (s_X7_minutesFor (s_X6_wishAt r (51 + 17 * i1) 0))) (51 + 17 * i1 + 1) (((va_up r (51 + 17 * i1 + 1) (s_X7_minutesFor (s_X6_wishAt r (51 + 17 * i1) 0))) (51 + 17 * i1 + 1)) - 1)) (51 + 17 * i1)) (51 + 17 * i1 + 4 + tn (s_X6_wishAt r (51 + 17 * i1) 0)) ((ft_ar (s_X6_dropFirst (va_up (va_up r (51 + 17 * i1 + 1) (s_X7_minutesFor (s_X6_wishAt r (51 + 17 * i1) 0))) (51 + 17 * i1 + 1) (((va_up r (51 + 17 * i1 + 1) (s_X7_minutesFor (s_X6_wishAt r (51 + 17 * i1) 0))) (51 + 17 * i1 + 1)) - 1)) (51 + 17 * i1)) (51 + 17 * i1 + 4) 4 (tn (s_X6_wishAt r (51 + 17 * i1) 0))) - 1)) (51 + 17 * i1 + 0) (((va_up (s_X6_dropFirst (va_up (va_up r (51 + 17 * i1 + 1) (s_X7_minutesFor (s_X6_wishAt r (51 + 17 * i1) 0))) (51 + 17 * i1 + 1) (((va_up r (51 + 17 * i1 + 1) (s_X7_minutesFor (s_X6_wishAt r (51 + 17 * i1) 0))) (51 + 17 * i1 + 1)) - 1)) (51 + 17 * i1)) (51 + 17 * i1 + 4 + tn (s_X6_wishAt r (51 + 17 * i1) 0)) ((ft_ar (s_X6_dropFirst (va_up (va_up r (51 + 17 * i1 + 1) (s_X7_minutesFor (s_X6_wishAt r (51 + 17 * i1) 0))) (51 + 17 * i1 + 1) (((va_up r (51 + 17 * i1 + 1) (s_X7_minutesFor (s_X6_wishAt r (51 + 17 * i1) 0))) (51 + 17 * i1 + 1)) - 1)) (51 + 17 * i1)) (51 + 17 * i1 + 4) 4 (tn (s_X6_wishAt r (51 + 17 * i1) 0))) - 1)) (51 + 17 * i1 + 0)) + (ft_ar (va_up (s_X6_dropFirst (va_up (va_up r (51 + 17 * i1 + 1) (s_X7_minutesFor (s_X6_wishAt r (51 + 17 * i1) 0))) (51 + 17 * i1 + 1) (((va_up r (51 + 17 * i1 + 1) (s_X7_minutesFor (s_X6_wishAt r (51 + 17 * i1) 0))) (51 + 17 * i1 + 1)) - 1)) (51 + 17 * i1)) (51 + 17 * i1 + 4 + tn (s_X6_wishAt r (51 + 17 * i1) 0)) ((ft_ar (s_X6_dropFirst (va_up (va_up r (51 + 17 * i1 + 1) (s_X7_minutesFor (s_X6_wishAt r (51 + 17 * i1) 0))) (51 + 17 * i1 + 1) (((va_up r (51 + 17 * i1 + 1) (s_X7_minutesFor (s_X6_wishAt r (51 + 17 * i1) 0))) (51 + 17 * i1 + 1)) - 1)) (51 + 17 * i1)) (51 + 17 * i1 + 4) 4 (tn (s_X6_wishAt r (51 + 17 * i1) 0))) - 1)) (8) 4 (tn (s_X6_wishAt r (51 + 17 * i1) 0))))) (12) 4 (tn (s_X6_wishAt r (51 + 17 * i1) 0))) + 1)) 5 (((va_up (va_up (va_up (s_X6_dropFirst (va_up (va_up r (51 + 17 * i1 + 1) (s_X7_minutesFor (s_X6_wishAt r (51 + 17 * i1) 0))) (51 + 17 * i1 + 1) (((va_up r (51 + 17 * i1 + 1) (s_X7_minutesFor (s_X6_wishAt r (51 + 17 * i1) 0))) (51 + 17 * i1 + 1)) - 1)) (51 + 17 * i1)) (51 + 17 * i1 + 4 + tn (s_X6_wishAt r (51 + 17 * i1) 0)) ((ft_ar (s_X6_dropFirst (va_up (va_up r (51 + 17 * i1 + 1) (s_X7_minutesFor (s_X6_wishAt r (51 + 17 * i1) 0))) (51 + 17 * i1 + 1) (((va_up r (51 + 17 * i1 + 1) (s_X7_minutesFor (s_X6_wishAt r (51 + 17 * i1) 0))) (51 + 17 * i1 + 1)) - 1)) (51 + 17 * i1)) (51 + 17 * i1 + 4) 4 (tn (s_X6_wishAt r (51 + 17 * i1) 0))) - 1)) (51 + 17 * i1 + 0) (((va_up (s_X6_dropFirst (va_up (va_up r (51 + 17 * i1 + 1) (s_X7_minutesFor (s_X6_wishAt r (51 + 17 * i1) 0))) (51 + 17 * i1 + 1) (((va_up r (51 + 17 * i1 + 1) (s_X7_minutesFor (s_X6_wishAt r (51 + 17 * i1) 0))) (51 + 17 * i1 + 1)) - 1)) (51 + 17 * i1)) (51 + 17 * i1 + 4 + tn (s_X6_wishAt r (51 + 17 * i1) 0)) ((ft_ar (s_X6_dropFirst (va_up (va_up r (51 + 17 * i1 + 1) (s_X7_minutesFor (s_X6_wishAt r (51 + 17 * i1) 0))) (51 + 17 * i1 + 1) (((va_up r (51 + 17 * i1 + 1) (s_X7_minutesFor (s_X6_wishAt r (51 + 17 * i1) 0))) (51 + 17 * i1 + 1)) - 1)) (51 + 17 * i1)) (51 + 17 * i1 + 4) 4 (tn (s_X6_wishAt r (51 + 17 * i1) 0))) - 1)) (51 + 17 * i1 + 0)) + (ft_ar (va_up (s_X6_dropFirst (va_up (va_up r (51 + 17 * i1 + 1) (s_X7_minutesFor (s_X6_wishAt r (51 + 17 * i1) 0))) (51 + 17 * i1 + 1) (((va_up r (51 + 17 * i1 + 1) (s_X7_minutesFor (s_X6_wishAt r (51 + 17 * i1) 0))) (51 + 17 * i1 + 1)) - 1)) (51 + 17 * i1)) (51 + 17 * i1 + 4 + tn (s_X6_wishAt r (51 + 17 * i1) 0)) ((ft_ar (s_X6_dropFirst (va_up (va_up r (51 + 17 * i1 + 1) (s_X7_minutesFor (s_X6_wishAt r (51 + 17 * i1) 0))) (51 + 17 * i1 + 1) (((va_up r (51 + 17 * i1 + 1) (s_X7_minutesFor (s_X6_wishAt r (51 + 17 * i1) 0))) (51 + 17 * i1 + 1)) - 1)) (51 + 17 * i1)) (51 + 17 * i1 + 4) 4 (tn (s_X6_wishAt r (51 + 17 * i1) 0))) - 1)) (8) 4 (tn (s_X6_wishAt r (51 + 17 * i1) 0))))) (12 + tn (s_X6_wishAt r (51 + 17 * i1) 0)) ((ft_ar (va_up (va_up (s_X6_dropFirst (va_up (va_up r (51 + 17 * i1 + 1) (s_X7_minutesFor (s_X6_wishAt r (51 + 17 * i1) 0))) (51 + 17 * i1 + 1) (((va_up r (51 + 17 * i1 + 1) (s_X7_minutesFor (s_X6_wishAt r (51 + 17 * i1) 0))) (51 + 17 * i1 + 1)) - 1)) (51 + 17 * i1)) (51 + 17 * i1 + 4 + tn (s_X6_wishAt r (51 + 17 * i1) 0)) ((ft_ar (s_X6_dropFirst (va_up (va_up r (51 + 17 * i1 + 1) (s_X7_minutesFor (s_X6_wishAt r (51 + 17 * i1) 0))) (51 + 17 * i1 + 1) (((va_up r (51 + 17 * i1 + 1) (s_X7_minutesFor (s_X6_wishAt r (51 + 17 * i1) 0))) (51 + 17 * i1 + 1)) - 1)) (51 + 17 * i1)) (51 + 17 * i1 + 4) 4 (tn (s_X6_wishAt r (51 + 17 * i1) 0))) - 1)) (51 + 17 * i1 + 0) (((va_up (s_X6_dropFirst (va_up (va_up r (51 + 17 * i1 + 1) (s_X7_minutesFor (s_X6_wishAt r (51 + 17 * i1) 0))) (51 + 17 * i1 + 1) (((va_up r (51 + 17 * i1 + 1) (s_X7_minutesFor (s_X6_wishAt r (51 + 17 * i1) 0))) (51 + 17 * i1 + 1)) - 1)) (51 + 17 * i1)) (51 + 17 * i1 + 4 + tn (s_X6_wishAt r (51 + 17 * i1) 0)) ((ft_ar (s_X6_dropFirst (va_up (va_up r (51 + 17 * i1 + 1) (s_X7_minutesFor (s_X6_wishAt r (51 + 17 * i1) 0))) (51 + 17 * i1 + 1) (((va_up r (51 + 17 * i1 + 1) (s_X7_minutesFor (s_X6_wishAt r (51 + 17 * i1) 0))) (51 + 17 * i1 + 1)) - 1)) (51 + 17 * i1)) (51 + 17 * i1 + 4) 4 (tn (s_X6_wishAt r (51 + 17 * i1) 0))) - 1)) (51 + 17 * i1 + 0)) + (ft_ar (va_up (s_X6_dropFirst (va_up (va_up r (51 + 17 * i1 + 1) (s_X7_minutesFor (s_X6_wishAt r (51 + 17 * i1) 0))) (51 + 17 * i1 + 1) (((va_up r (51 + 17 * i1 + 1) (s_X7_minutesFor (s_X6_wishAt r (51 + 17 * i1) 0))) (51 + 17 * i1 + 1)) - 1)) (51 + 17 * i1)) (51 + 17 * i1 + 4 + tn (s_X6_wishAt r (51 + 17 * i1) 0)) ((ft_ar (s_X6_dropFirst (va_up (va_up r (51 + 17 * i1 + 1) (s_X7_minutesFor (s_X6_wishAt r (51 + 17 * i1) 0))) (51 + 17 * i1 + 1) (((va_up r (51 + 17 * i1 + 1) (s_X7_minutesFor (s_X6_wishAt r (51 + 17 * i1) 0))) (51 + 17 * i1 + 1)) - 1)) (51 + 17 * i1)) (51 + 17 * i1 + 4) 4 (tn (s_X6_wishAt r (51 + 17 * i1) 0))) - 1)) (8) 4 (tn (s_X6_wishAt r (51 + 17 * i1) 0))))) (12) 4 (tn (s_X6_wishAt r (51 + 17 * i1) 0))) + 1)) 5) + 1)), rfl, hsp, ft_heap ht hP⟩, hS.F ht⟩) hS.2.2 dX4_letWork_120
        · replace hsp := (if_neg c_67).symm.trans hsp
          exact W.vret hx hb hr (fun t ht hW => ⟨⟨(va_up (va_up r (51 + 17 * i1 + 1) (s_X7_minutesFor (s_X6_wishAt r (51 + 17 * i1) 0))) (51 + 17 * i1 + 1) (((va_up r (51 + 17 * i1 + 1) (s_X7_minutesFor (s_X6_wishAt r (51 + 17 * i1) 0))) (51 + 17 * i1 + 1)) - 1)), rfl, hsp, ft_heap ht hP⟩, hS.F ht⟩) hS.2.2 dX4_letWork_70
      · replace hsp := (if_pos c_27).symm.trans hsp
        refine lv_aload_n hx hb dX4_letWork_30 rfl (lv_at hl 2 rfl) ?_
        refine va_callv (va_runV (As := []) (rest := []) ⟨hx, hb, hml, hown, hts⟩ (c_X6_dropFirst l dC (ft_at ad i1) k r (51 + 17 * i1)) (cwV 0 hts gX4_letWork_X6_dropFirst rfl rfl rfl (by decide +kernel) ⟨Nat.le_of_ble_eq_true rfl, Nat.le_of_ble_eq_true rfl⟩) (ft_preVd hK (ft_S_P hP hi1) (ft_S_D hD hi1) (ci := 8) rfl (ft_get' (by decide) rfl)) rfl rfl hl.1 rfl (lv_room (Nat.le_of_ble_eq_true rfl)) dX4_letWork_31 ⟨Nat.le_of_ble_eq_true rfl, Nat.le_of_ble_eq_true rfl⟩) hS (fun q _ h => ft_S_A hD hi1 q h) (fun q h => ft_S_A hD hi1 q h) (fun u t H1 locs ht hvm hw hB hz1 hk1 hS => ?_)
        subst hw
        rw [ht] at hB
        have hP : va_P dC vwCl (ft_WS ad k (s_X6_dropFirst r (51 + 17 * i1))) H1 := ft_S_join hP hD hi1 hk1 hB (o_X6_dropFirst _ _)
        have hD : va_D (ft_A 23 ad) (ft_WS ad k (s_X6_dropFirst r (51 + 17 * i1))) := ft_D_va hD _
        generalize H1 = H at hP hS ⊢
        refine lv_aload_n hx hb dX4_letWork_34 rfl (lv_at hl 1 rfl) ?_
        refine lv_dup hx hb dX4_letWork_35 rfl ?_
        refine va_get (D := dC) (ci := 6) (v := .int ((s_X6_dropFirst r (51 + 17 * i1)) 6)) (C := RX4) (T := TX4) (N := 12) hx hb hts (by decide +kernel) hown hK.1 hP 0 (ft_get' (by decide) rfl) rfl 10 (by decide) (hts (.fieldLink RX4 63 "FoodTruckRota$Square" "disappointed" "I") (by decide +kernel)) (fun _ h9 => h9) rfl dX4_letWork_36 ?_
        refine lv_iconst (v := 1) hx hb dX4_letWork_39 (by decide) ?_
        refine lv_iadd hx hb dX4_letWork_40 ?_
        refine va_put (D := dC) (ci := 6) (v := .int (((s_X6_dropFirst r (51 + 17 * i1)) 6) + 1)) (ty := .int) (C := RX4) (T := TX4) (N := 12) hx hb hts (by decide +kernel) tyX4 tyX4_ok nmX4 hown hK.1 hP hD hS 0 (ft_get' (by decide) rfl) rfl 10 (by decide) (hts (.fieldLink RX4 63 "FoodTruckRota$Square" "disappointed" "I") (by decide +kernel)) (fun _ h9 => h9) rfl (by decide +kernel) rfl rfl (Nat.le_of_ble_eq_true rfl) dX4_letWork_41 (fun H locs hP hD hS => ?_)
        have hP := ft_cast hP ft_S_p6
        have hD := ft_castD hD ft_S_p6
        have hP : va_P dC vwCl (ft_WS ad k (va_up (s_X6_dropFirst r (51 + 17 * i1)) 6 (((s_X6_dropFirst r (51 + 17 * i1)) 6) + 1))) H := hP
        have hD : va_D (ft_A 23 ad) (ft_WS ad k (va_up (s_X6_dropFirst r (51 + 17 * i1)) 6 (((s_X6_dropFirst r (51 + 17 * i1)) 6) + 1))) := hD
        exact W.vret hx hb hr (fun t ht hW => ⟨⟨(va_up (s_X6_dropFirst r (51 + 17 * i1)) 6 (((s_X6_dropFirst r (51 + 17 * i1)) 6) + 1)), rfl, hsp, ft_heap ht hP⟩, hS.F ht⟩) hS.2.2 dX4_letWork_44
  · replace hsp := (if_pos c_10).symm.trans hsp
    exact W.vret hx hb hr (fun t ht hW => ⟨⟨r, rfl, hsp, ft_heap ht hP⟩, hS.F ht⟩) hS.2.2 dX4_letWork_13

def s_X4_letTrucksWork_L7 (r : Nat → Int32)  (K : Int32 → (Nat → Int32) → (Nat → Int32)) : Nat → Int32 → (Nat → Int32) → (Nat → Int32)
  | 0, y2_7, r_7 => K y2_7 r_7
  | n + 1, y2_7, r_7 => if 5 ≤ y2_7 then (K y2_7 r_7) else (if (s_X4_isTruck r_7 (s_X4_holderOf r_7 y2_7 (s_X4_today r))) = 0 then (s_X4_letTrucksWork_L7 r K n (y2_7 + 1) r_7) else (s_X4_letTrucksWork_L7 r K n (y2_7 + 1) (s_X4_letWork r_7 (tn (s_X4_holderOf r_7 y2_7 (s_X4_today r))))))
def s_X4_letTrucksWork (r : Nat → Int32)  : (Nat → Int32) := s_X4_letTrucksWork_L7 r (fun y2_7 r_7 => r_7) (tn 5 + 1) 0 r
set_option maxHeartbeats 4000000 in
set_option maxRecDepth 100000 in
theorem c_X4_letTrucksWork (l : Launch) (dC : va_G) (ad : Nat → Nat) (k : Nat → ClassId) (r : Nat → Int32)  : Met l yX4_letTrucksWork wsX4_letTrucksWork ({ frames := 2, cells := 0, slots := 0, locals := 43 }) (ft_Pd dC k [.ref (ad 0)] (ft_WS ad k r)) (va_Qv (fun u : Nat → Int32 => u = s_X4_letTrucksWork r) (fun (u : Nat → Int32) (t : State) => va_P dC vwCl (ft_WS ad k u) t.heap) (ft_A 23 ad)) 0 0 (ft_A 23 ad) := by
  refine Met.ofW (cc := cX4_letTrucksWork) (maxL := 4) (ret := none) (by decide) rfl ?_
  intro p e s m args below meth c s₁ B hml hv
  obtain ⟨hargs, hP, hK, hD0⟩ := hv
  subst hargs
  have hx := B.exec
  have hb := B.bytes
  have hr := B.returns
  have hts := atoms_spec (ws := wsX4_letTrucksWork) B.pre
  have hown : s.vm.findClass RX4 = some m.cls := findClass_of_methodNamed B.named
  have hlocks := B.notSynchronized
  have hD := ft_D_self hD0
  have hS : va_S (ft_A 23 ad) s.heap s.heap [] := va_S.rf
  have hl := lv_entry ([.ref (ad 0)]) (n := 4) (Nat.le_of_ble_eq_true rfl)
  rw [lg_entry_eq]
  generalize (lg_sl ([.ref (ad 0)]) ++ List.replicate (4 - (lg_sl ([.ref (ad 0)])).length) Slot.unset).toArray = ls at hl ⊢
  have hl : lv_has ls 4 [(0, .ref (ad 0))] := hl
  have hsp := (s_X4_letTrucksWork.eq_1 r ).symm
  refine lv_aload_n hx hb dX4_letTrucksWork_0 rfl (lv_at hl 0 rfl) ?_
  refine vp_callSi (va_Run.run (va_runV (As := []) (rest := []) ⟨hx, hb, hml, hown, hts⟩ (c_X4_today l dC ad k r) (cwV 0 hts gX4_letTrucksWork_X4_today rfl rfl rfl (by decide +kernel) ⟨Nat.le_of_ble_eq_true rfl, Nat.le_of_ble_eq_true rfl⟩) (ft_preVc hK hP (ci := 6) rfl (ft_get' (by decide) rfl)) rfl rfl hl.1 rfl (lv_room (Nat.le_of_ble_eq_true rfl)) dX4_letTrucksWork_1 ⟨Nat.le_of_ble_eq_true rfl, Nat.le_of_ble_eq_true rfl⟩)) (fun z hz => ?_)
  subst hz
  refine lv_istore_n (lv' := [(1, .int ((s_X4_today r))), (0, .ref (ad 0))]) hx hb dX4_letTrucksWork_4 rfl hl (by decide) rfl (fun ls hl => ?_)
  refine lv_iconst (v := 0) hx hb dX4_letTrucksWork_5 (by decide) ?_
  refine lv_istore_n (lv' := [(2, .int (0)), (1, .int ((s_X4_today r))), (0, .ref (ad 0))]) hx hb dX4_letTrucksWork_6 rfl hl (by decide) rfl (fun ls hl => ?_)
  have loop_7 : ∀ (K : Int32 → (Nat → Int32) → (Nat → Int32)) (hKx : ∀ (y2_7 : Int32) (i_7 : Nat) (hi_7 : y2_7 = nI i_7) (hm_7 : i_7 ≤ tn 5) (r_7 : Nat → Int32) (H : Heap) (locs : List Loc) (hP : va_P dC vwCl (ft_WS ad k r_7) H) (hD : va_D (ft_A 23 ad) (ft_WS ad k r_7)) (hS : va_S (ft_A 23 ad) s.heap H locs) (ls : Array Slot) (hl : lv_has ls 4 [(2, .int (y2_7)), (1, .int ((s_X4_today r))), (0, .ref (ad 0))]) (hsp : K y2_7 r_7 = s_X4_letTrucksWork r), W p l e (headSpec wsX4_letTrucksWork ({ frames := 2, cells := 0, slots := 0, locals := 43 })).room s m ([.ref (ad 0)] : List Value).toArray below meth c H locs 0 0 (MQ below (va_Qv (fun u : Nat → Int32 => u = s_X4_letTrucksWork r) (fun (u : Nat → Int32) (t : State) => va_P dC vwCl (ft_WS ad k u) t.heap) (ft_A 23 ad)) ([.ref (ad 0)] : List Value).toArray s 0 0 (ft_A 23 ad)) (F0 m 43 ls [])) (n_7 : Nat), ∀ (y2_7 : Int32) (i_7 : Nat) (hi_7 : y2_7 = nI i_7) (hm_7 : i_7 ≤ tn 5) (hn_7 : tn 5 < n_7 + i_7) (r_7 : Nat → Int32) (H : Heap) (locs : List Loc) (hP : va_P dC vwCl (ft_WS ad k r_7) H) (hD : va_D (ft_A 23 ad) (ft_WS ad k r_7)) (hS : va_S (ft_A 23 ad) s.heap H locs) (ls : Array Slot) (hl : lv_has ls 4 [(2, .int (y2_7)), (1, .int ((s_X4_today r))), (0, .ref (ad 0))]) (hsp : s_X4_letTrucksWork_L7 r K n_7 y2_7 r_7 = s_X4_letTrucksWork r), W p l e (headSpec wsX4_letTrucksWork ({ frames := 2, cells := 0, slots := 0, locals := 43 })).room s m ([.ref (ad 0)] : List Value).toArray below meth c H locs 0 0 (MQ below (va_Qv (fun u : Nat → Int32 => u = s_X4_letTrucksWork r) (fun (u : Nat → Int32) (t : State) => va_P dC vwCl (ft_WS ad k u) t.heap) (ft_A 23 ad)) ([.ref (ad 0)] : List Value).toArray s 0 0 (ft_A 23 ad)) (F0 m 7 ls []) := by
    intro K hKx n_7
    induction n_7 with
    | zero => intro y2_7 i_7 hi_7 hm_7 hn_7; exact absurd hn_7 (by omega)
    | succ n ih_7 =>
      intro y2_7 i_7 hi_7 hm_7 hn_7 r_7 H locs hP hD hS ls hl hsp
      rw [s_X4_letTrucksWork_L7] at hsp
      refine lv_iload_n hx hb dX4_letTrucksWork_7 rfl (lv_at hl 0 rfl) ?_
      refine lv_iconst (v := 5) hx hb dX4_letTrucksWork_8 (by decide) ?_
      refine lv_icmp_ge (tgt := 43) hx hb dX4_letTrucksWork_9 (by decide) (fun c_9 => ?_) (fun c_9 => ?_)
      · replace hsp := (if_pos c_9).symm.trans hsp
        exact hKx y2_7 i_7 hi_7 hm_7 r_7 _ _ hP hD hS ls (lv_sub hl [0, 1, 2] rfl) hsp
      · replace hsp := (if_neg c_9).symm.trans hsp
        have hlt_7 := ft_step hi_7 hm_7 c_9
        refine lv_aload_n hx hb dX4_letTrucksWork_12 rfl (lv_at hl 2 rfl) ?_
        refine lv_iload_n hx hb dX4_letTrucksWork_13 rfl (lv_at hl 0 rfl) ?_
        refine lv_iload_n hx hb dX4_letTrucksWork_14 rfl (lv_at hl 1 rfl) ?_
        refine vp_callSi (va_Run.run (va_runV (As := [.int (y2_7), .int ((s_X4_today r))]) (rest := []) ⟨hx, hb, hml, hown, hts⟩ (c_X4_holderOf l dC ad k r_7 y2_7 (s_X4_today r)) (cwV 2 hts gX4_letTrucksWork_X4_holderOf rfl rfl rfl (by decide +kernel) ⟨Nat.le_of_ble_eq_true rfl, Nat.le_of_ble_eq_true rfl⟩) (ft_preVc hK hP (ci := 6) rfl (ft_get' (by decide) rfl)) rfl rfl hl.1 rfl (lv_room (Nat.le_of_ble_eq_true rfl)) dX4_letTrucksWork_15 ⟨Nat.le_of_ble_eq_true rfl, Nat.le_of_ble_eq_true rfl⟩)) (fun z hz => ?_)
        subst hz
        refine lv_istore_n (lv' := [(3, .int ((s_X4_holderOf r_7 y2_7 (s_X4_today r)))), (2, .int (y2_7)), (1, .int ((s_X4_today r))), (0, .ref (ad 0))]) hx hb dX4_letTrucksWork_18 rfl hl (by decide) rfl (fun ls hl => ?_)
        refine lv_aload_n hx hb dX4_letTrucksWork_19 rfl (lv_at hl 3 rfl) ?_
        refine lv_iload_n hx hb dX4_letTrucksWork_20 rfl (lv_at hl 0 rfl) ?_
        refine vp_callSi (va_Run.run (va_runV (As := [.int ((s_X4_holderOf r_7 y2_7 (s_X4_today r)))]) (rest := []) ⟨hx, hb, hml, hown, hts⟩ (c_X4_isTruck l dC ad k r_7 (s_X4_holderOf r_7 y2_7 (s_X4_today r))) (cwV 1 hts gX4_letTrucksWork_X4_isTruck rfl rfl rfl (by decide +kernel) ⟨Nat.le_of_ble_eq_true rfl, Nat.le_of_ble_eq_true rfl⟩) (ft_preVc hK hP (ci := 6) rfl (ft_get' (by decide) rfl)) rfl rfl hl.1 rfl (lv_room (Nat.le_of_ble_eq_true rfl)) dX4_letTrucksWork_21 ⟨Nat.le_of_ble_eq_true rfl, Nat.le_of_ble_eq_true rfl⟩)) (fun z hz => ?_)
        subst hz
        refine lv_if_eq (tgt := 37) hx hb dX4_letTrucksWork_24 (by decide) (fun c_24 => ?_) (fun c_24 => ?_)
        · replace hsp := (if_pos c_24).symm.trans hsp
          refine lv_iinc (v := y2_7 + 1) (lv' := [(2, .int (y2_7 + 1)), (3, .int ((s_X4_holderOf r_7 y2_7 (s_X4_today r)))), (1, .int ((s_X4_today r))), (0, .ref (ad 0))]) hx hb dX4_letTrucksWork_37 hl (k := 1) rfl rfl (by decide) rfl (fun ls hl => ?_)
          refine lv_goto (tgt := 7) hx hb dX4_letTrucksWork_40 (by decide) ?_
          exact ih_7 (y2_7 + 1) (i_7 + 1) (by rw [hi_7, nI_1]) hlt_7 (by omega) r_7 _ _ hP hD hS ls (lv_sub hl [0, 2, 3] rfl) hsp
        · replace hsp := (if_neg c_24).symm.trans hsp
          refine lv_aload_n hx hb dX4_letTrucksWork_27 rfl (lv_at hl 3 rfl) ?_
          refine lv_aload_n hx hb dX4_letTrucksWork_28 rfl (lv_at hl 3 rfl) ?_
          refine va_get (D := dC) (ci := 6) (v := .ref (ad 1)) (C := RX4) (T := TX4) (N := 12) hx hb hts (by decide +kernel) hown hK.1 hP 0 (ft_get' (by decide) rfl) rfl 0 (by decide) (hts (.fieldLink RX4 11 "FoodTruckRota$Square" "trucks" "[LFoodTruckRota$Truck;") (by decide +kernel)) (fun _ h9 => h9) rfl dX4_letTrucksWork_29 ?_
          refine lv_iload_n hx hb dX4_letTrucksWork_32 rfl (lv_at hl 0 rfl) ?_
          have h_33 : vp_in (s_X4_holderOf r_7 y2_7 (s_X4_today r)) 6 := by first | assumption | exact isTruck_in (by assumption) | exact isDish_in (by assumption)
          refine va_aldq (C := RX6) hx hb hK.1 hP 1 1 (ft_get' (by decide) rfl) rfl h_33 dX4_letTrucksWork_33 ?_
          refine W.eq (g2 := F0 m 34 ls [.ref (ft_at ad (tn (s_X4_holderOf r_7 y2_7 (s_X4_today r))) 0), .ref (ad 0)]) rfl ?_
          refine va_callv (va_runV (As := [.ref (ft_at ad (tn (s_X4_holderOf r_7 y2_7 (s_X4_today r))) 0)]) (rest := []) ⟨hx, hb, hml, hown, hts⟩ (c_X4_letWork l dC ad k r_7 (tn (s_X4_holderOf r_7 y2_7 (s_X4_today r))) (ft_tn h_33)) (cwV 1 hts gX4_letTrucksWork_X4_letWork rfl rfl rfl (by decide +kernel) ⟨Nat.le_of_ble_eq_true rfl, Nat.le_of_ble_eq_true rfl⟩) (ft_preVd hK hP hD (ci := 6) rfl (ft_get' (by decide) rfl)) rfl rfl hl.1 rfl (lv_room (Nat.le_of_ble_eq_true rfl)) dX4_letTrucksWork_34 ⟨Nat.le_of_ble_eq_true rfl, Nat.le_of_ble_eq_true rfl⟩) hS (fun q _ h => h) (fun q h => h) (fun u t H1 locs ht hvm hw hB hz1 hk1 hS => ?_)
          subst hw
          rw [ht] at hB
          have hP : va_P dC vwCl (ft_WS ad k (s_X4_letWork r_7 (tn (s_X4_holderOf r_7 y2_7 (s_X4_today r))))) H1 := hB
          have hD : va_D (ft_A 23 ad) (ft_WS ad k (s_X4_letWork r_7 (tn (s_X4_holderOf r_7 y2_7 (s_X4_today r))))) := ft_D_va hD _
          generalize H1 = H at hP hS ⊢
          refine lv_iinc (v := y2_7 + 1) (lv' := [(2, .int (y2_7 + 1)), (3, .int ((s_X4_holderOf r_7 y2_7 (s_X4_today r)))), (1, .int ((s_X4_today r))), (0, .ref (ad 0))]) hx hb dX4_letTrucksWork_37 hl (k := 1) rfl rfl (by decide) rfl (fun ls hl => ?_)
          refine lv_goto (tgt := 7) hx hb dX4_letTrucksWork_40 (by decide) ?_
          exact ih_7 (y2_7 + 1) (i_7 + 1) (by rw [hi_7, nI_1]) hlt_7 (by omega) (s_X4_letWork r_7 (tn (s_X4_holderOf r_7 y2_7 (s_X4_today r)))) _ _ hP hD hS ls (lv_sub hl [0, 2, 3] rfl) hsp
  refine loop_7 _ (fun y2_7 i_7 hi_7 hm_7 r_7 H locs hP hD hS ls hl hsp => ?_) (tn 5 + 1) 0 0 rfl (by omega) (by omega) r _ _ hP hD hS ls (lv_sub hl [0, 1, 2] rfl) hsp
  exact W.vret hx hb hr (fun t ht hW => ⟨⟨r_7, rfl, hsp, ft_heap ht hP⟩, hS.F ht⟩) hS.2.2 dX4_letTrucksWork_43

def s_X4_shortestOpenQueue_L9 (r : Nat → Int32)  (K : Option Nat → Int32 → Option Nat) : Nat → Option Nat → Int32 → Option Nat
  | 0, y1_9, y3_9 => K y1_9 y3_9
  | n + 1, y1_9, y3_9 => ft_op y1_9 (if 5 ≤ y3_9 then (K none y3_9) else (if (s_X4_isTruck r (s_X4_holderOf r y3_9 (s_X4_today r))) = 0 then (s_X4_shortestOpenQueue_L9 r K n none (y3_9 + 1)) else (s_X4_shortestOpenQueue_L9 r K n (some (tn (s_X4_holderOf r y3_9 (s_X4_today r)))) (y3_9 + 1)))) (fun j_o => if 5 ≤ y3_9 then (K (some j_o) y3_9) else (if (s_X4_isTruck r (s_X4_holderOf r y3_9 (s_X4_today r))) = 0 then (s_X4_shortestOpenQueue_L9 r K n (some j_o) (y3_9 + 1)) else (if (r (51 + 17 * j_o + 2)) ≤ (r (51 + 17 * (tn (s_X4_holderOf r y3_9 (s_X4_today r))) + 2)) then (s_X4_shortestOpenQueue_L9 r K n (some j_o) (y3_9 + 1)) else (s_X4_shortestOpenQueue_L9 r K n (some (tn (s_X4_holderOf r y3_9 (s_X4_today r)))) (y3_9 + 1)))))
def s_X4_shortestOpenQueue (r : Nat → Int32)  : Option Nat := s_X4_shortestOpenQueue_L9 r (fun y1_9 y3_9 => ft_op y1_9 (none) (fun j_o => some j_o)) (tn 5 + 1) none 0
set_option maxHeartbeats 4000000 in
set_option maxRecDepth 100000 in
theorem c_X4_shortestOpenQueue (l : Launch) (dC : va_G) (ad : Nat → Nat) (k : Nat → ClassId) (r : Nat → Int32)  : Met l yX4_shortestOpenQueue wsX4_shortestOpenQueue ({ frames := 2, cells := 0, slots := 0, locals := 42 }) (ft_Pc dC k [.ref (ad 0)] (ft_WS ad k r)) (va_Se (fun i => ft_at ad i 0) (fun o : Option Nat => o = s_X4_shortestOpenQueue r ∧ ∀ j, o = some j → j < 6)) 0 0 (fun _ => False) := by
  refine Met.ofW (cc := cX4_shortestOpenQueue) (maxL := 5) (ret := (some (.object "FoodTruckRota$Truck"))) (by decide) rfl ?_
  intro p e s m args below meth c s₁ B hml hv
  obtain ⟨hargs, hP, hK⟩ := hv
  subst hargs
  have hx := B.exec
  have hb := B.bytes
  have hr := B.returns
  have hts := atoms_spec (ws := wsX4_shortestOpenQueue) B.pre
  have hown : s.vm.findClass RX4 = some m.cls := findClass_of_methodNamed B.named
  have hlocks := B.notSynchronized
  have hl := lv_entry ([.ref (ad 0)]) (n := 5) (Nat.le_of_ble_eq_true rfl)
  rw [lg_entry_eq]
  generalize (lg_sl ([.ref (ad 0)]) ++ List.replicate (5 - (lg_sl ([.ref (ad 0)])).length) Slot.unset).toArray = ls at hl ⊢
  have hl : lv_has ls 5 [(0, .ref (ad 0))] := hl
  have hsp := (s_X4_shortestOpenQueue.eq_1 r ).symm
  refine lv_null hx hb dX4_shortestOpenQueue_0 ?_
  refine lv_astore_nN (lv' := [(1, .null), (0, .ref (ad 0))]) hx hb dX4_shortestOpenQueue_1 rfl hl (by decide) rfl (fun ls hl => ?_)
  refine lv_aload_n hx hb dX4_shortestOpenQueue_2 rfl (lv_at hl 1 rfl) ?_
  refine vp_callSi (va_Run.run (va_runV (As := []) (rest := []) ⟨hx, hb, hml, hown, hts⟩ (c_X4_today l dC ad k r) (cwV 0 hts gX4_shortestOpenQueue_X4_today rfl rfl rfl (by decide +kernel) ⟨Nat.le_of_ble_eq_true rfl, Nat.le_of_ble_eq_true rfl⟩) (ft_preVc hK hP (ci := 6) rfl (ft_get' (by decide) rfl)) rfl rfl hl.1 rfl (lv_room (Nat.le_of_ble_eq_true rfl)) dX4_shortestOpenQueue_3 ⟨Nat.le_of_ble_eq_true rfl, Nat.le_of_ble_eq_true rfl⟩)) (fun z hz => ?_)
  subst hz
  refine lv_istore_n (lv' := [(2, .int ((s_X4_today r))), (1, .null), (0, .ref (ad 0))]) hx hb dX4_shortestOpenQueue_6 rfl hl (by decide) rfl (fun ls hl => ?_)
  refine lv_iconst (v := 0) hx hb dX4_shortestOpenQueue_7 (by decide) ?_
  refine lv_istore_n (lv' := [(3, .int (0)), (2, .int ((s_X4_today r))), (1, .null), (0, .ref (ad 0))]) hx hb dX4_shortestOpenQueue_8 rfl hl (by decide) rfl (fun ls hl => ?_)
  have loop_9 : ∀ (K : Option Nat → Int32 → Option Nat) (hKx : ∀ (y1_9 : Option Nat) (y3_9 : Int32) (i_9 : Nat) (hi_9 : y3_9 = nI i_9) (hm_9 : i_9 ≤ tn 5) (ho_9 : ∀ j, y1_9 = some j → j < 6) (ls : Array Slot) (hl : lv_has ls 5 [(3, .int (y3_9)), (2, .int ((s_X4_today r))), (1, va_re (fun i => ft_at ad i 0) (y1_9)), (0, .ref (ad 0))]) (hsp : K y1_9 y3_9 = s_X4_shortestOpenQueue r), W p l e (headSpec wsX4_shortestOpenQueue ({ frames := 2, cells := 0, slots := 0, locals := 42 })).room s m ([.ref (ad 0)] : List Value).toArray below meth c s.heap [] 0 0 (MQ below (va_Se (fun i => ft_at ad i 0) (fun o : Option Nat => o = s_X4_shortestOpenQueue r ∧ ∀ j, o = some j → j < 6)) ([.ref (ad 0)] : List Value).toArray s 0 0 (fun _ => False)) (F0 m 66 ls [])) (n_9 : Nat), ∀ (y1_9 : Option Nat) (y3_9 : Int32) (i_9 : Nat) (hi_9 : y3_9 = nI i_9) (hm_9 : i_9 ≤ tn 5) (hn_9 : tn 5 < n_9 + i_9) (ho_9 : ∀ j, y1_9 = some j → j < 6) (ls : Array Slot) (hl : lv_has ls 5 [(3, .int (y3_9)), (2, .int ((s_X4_today r))), (1, va_re (fun i => ft_at ad i 0) (y1_9)), (0, .ref (ad 0))]) (hsp : s_X4_shortestOpenQueue_L9 r K n_9 y1_9 y3_9 = s_X4_shortestOpenQueue r), W p l e (headSpec wsX4_shortestOpenQueue ({ frames := 2, cells := 0, slots := 0, locals := 42 })).room s m ([.ref (ad 0)] : List Value).toArray below meth c s.heap [] 0 0 (MQ below (va_Se (fun i => ft_at ad i 0) (fun o : Option Nat => o = s_X4_shortestOpenQueue r ∧ ∀ j, o = some j → j < 6)) ([.ref (ad 0)] : List Value).toArray s 0 0 (fun _ => False)) (F0 m 9 ls []) := by
    intro K hKx n_9
    induction n_9 with
    | zero => intro y1_9 y3_9 i_9 hi_9 hm_9 hn_9; exact absurd hn_9 (by omega)
    | succ n ih_9 =>
      intro y1_9 y3_9 i_9 hi_9 hm_9 hn_9 ho_9 ls hl hsp
      rw [s_X4_shortestOpenQueue_L9] at hsp
      cases y1_9 with
      | none =>
        have hl : lv_has ls 5 [(3, .int (y3_9)), (2, .int ((s_X4_today r))), (1, .null), (0, .ref (ad 0))] := hl
        replace hsp := (ft_op_n _ _).symm.trans hsp
        refine lv_iload_n hx hb dX4_shortestOpenQueue_9 rfl (lv_at hl 0 rfl) ?_
        refine lv_iconst (v := 5) hx hb dX4_shortestOpenQueue_10 (by decide) ?_
        refine lv_icmp_ge (tgt := 66) hx hb dX4_shortestOpenQueue_11 (by decide) (fun c_11 => ?_) (fun c_11 => ?_)
        · replace hsp := (if_pos c_11).symm.trans hsp
          exact hKx none y3_9 i_9 hi_9 hm_9 (fun j h => by cases h) ls (lv_sub hl [0, 1, 2, 3] rfl) hsp
        · replace hsp := (if_neg c_11).symm.trans hsp
          have hlt_9 := ft_step hi_9 hm_9 c_11
          refine lv_aload_n hx hb dX4_shortestOpenQueue_14 rfl (lv_at hl 3 rfl) ?_
          refine lv_iload_n hx hb dX4_shortestOpenQueue_15 rfl (lv_at hl 0 rfl) ?_
          refine lv_iload_n hx hb dX4_shortestOpenQueue_16 rfl (lv_at hl 1 rfl) ?_
          refine vp_callSi (va_Run.run (va_runV (As := [.int (y3_9), .int ((s_X4_today r))]) (rest := []) ⟨hx, hb, hml, hown, hts⟩ (c_X4_holderOf l dC ad k r y3_9 (s_X4_today r)) (cwV 2 hts gX4_shortestOpenQueue_X4_holderOf rfl rfl rfl (by decide +kernel) ⟨Nat.le_of_ble_eq_true rfl, Nat.le_of_ble_eq_true rfl⟩) (ft_preVc hK hP (ci := 6) rfl (ft_get' (by decide) rfl)) rfl rfl hl.1 rfl (lv_room (Nat.le_of_ble_eq_true rfl)) dX4_shortestOpenQueue_17 ⟨Nat.le_of_ble_eq_true rfl, Nat.le_of_ble_eq_true rfl⟩)) (fun z hz => ?_)
          subst hz
          refine lv_istore (lv' := [(4, .int ((s_X4_holderOf r y3_9 (s_X4_today r)))), (3, .int (y3_9)), (2, .int ((s_X4_today r))), (1, .null), (0, .ref (ad 0))]) hx hb dX4_shortestOpenQueue_20 hl (by decide) rfl (fun ls hl => ?_)
          refine lv_aload_n hx hb dX4_shortestOpenQueue_22 rfl (lv_at hl 4 rfl) ?_
          refine lv_iload hx hb dX4_shortestOpenQueue_23 (lv_at hl 0 rfl) ?_
          refine vp_callSi (va_Run.run (va_runV (As := [.int ((s_X4_holderOf r y3_9 (s_X4_today r)))]) (rest := []) ⟨hx, hb, hml, hown, hts⟩ (c_X4_isTruck l dC ad k r (s_X4_holderOf r y3_9 (s_X4_today r))) (cwV 1 hts gX4_shortestOpenQueue_X4_isTruck rfl rfl rfl (by decide +kernel) ⟨Nat.le_of_ble_eq_true rfl, Nat.le_of_ble_eq_true rfl⟩) (ft_preVc hK hP (ci := 6) rfl (ft_get' (by decide) rfl)) rfl rfl hl.1 rfl (lv_room (Nat.le_of_ble_eq_true rfl)) dX4_shortestOpenQueue_25 ⟨Nat.le_of_ble_eq_true rfl, Nat.le_of_ble_eq_true rfl⟩)) (fun z hz => ?_)
          subst hz
          refine lv_if_eq (tgt := 60) hx hb dX4_shortestOpenQueue_28 (by decide) (fun c_28 => ?_) (fun c_28 => ?_)
          · replace hsp := (if_pos c_28).symm.trans hsp
            refine lv_iinc (v := y3_9 + 1) (lv' := [(3, .int (y3_9 + 1)), (4, .int ((s_X4_holderOf r y3_9 (s_X4_today r)))), (2, .int ((s_X4_today r))), (1, .null), (0, .ref (ad 0))]) hx hb dX4_shortestOpenQueue_60 hl (k := 1) rfl rfl (by decide) rfl (fun ls hl => ?_)
            refine lv_goto (tgt := 9) hx hb dX4_shortestOpenQueue_63 (by decide) ?_
            exact ih_9 none (y3_9 + 1) (i_9 + 1) (by rw [hi_9, nI_1]) hlt_9 (by omega) (fun j h => by cases h) ls (lv_sub hl [0, 2, 3, 4] rfl) hsp
          · replace hsp := (if_neg c_28).symm.trans hsp
            refine lv_aload_nN hx hb dX4_shortestOpenQueue_31 rfl (lv_at hl 3 rfl) ?_
            refine lv_ifnullN (tgt := 52) hx hb dX4_shortestOpenQueue_32 (by decide) ?_
            refine lv_aload_n hx hb dX4_shortestOpenQueue_52 rfl (lv_at hl 4 rfl) ?_
            refine va_get (D := dC) (ci := 6) (v := .ref (ad 1)) (C := RX4) (T := TX4) (N := 12) hx hb hts (by decide +kernel) hown hK.1 hP 0 (ft_get' (by decide) rfl) rfl 0 (by decide) (hts (.fieldLink RX4 11 "FoodTruckRota$Square" "trucks" "[LFoodTruckRota$Truck;") (by decide +kernel)) (fun _ h9 => h9) rfl dX4_shortestOpenQueue_53 ?_
            refine lv_iload hx hb dX4_shortestOpenQueue_56 (lv_at hl 0 rfl) ?_
            have h_58 : vp_in (s_X4_holderOf r y3_9 (s_X4_today r)) 6 := by first | assumption | exact isTruck_in (by assumption) | exact isDish_in (by assumption)
            refine va_aldq (C := RX6) hx hb hK.1 hP 1 1 (ft_get' (by decide) rfl) rfl h_58 dX4_shortestOpenQueue_58 ?_
            refine W.eq (g2 := F0 m 59 ls [.ref (ft_at ad (tn (s_X4_holderOf r y3_9 (s_X4_today r))) 0)]) rfl ?_
            refine lv_astore_n (lv' := [(1, .ref (ft_at ad (tn (s_X4_holderOf r y3_9 (s_X4_today r))) 0)), (4, .int ((s_X4_holderOf r y3_9 (s_X4_today r)))), (3, .int (y3_9)), (2, .int ((s_X4_today r))), (0, .ref (ad 0))]) hx hb dX4_shortestOpenQueue_59 rfl hl (by decide) rfl (fun ls hl => ?_)
            refine lv_iinc (v := y3_9 + 1) (lv' := [(3, .int (y3_9 + 1)), (1, .ref (ft_at ad (tn (s_X4_holderOf r y3_9 (s_X4_today r))) 0)), (4, .int ((s_X4_holderOf r y3_9 (s_X4_today r)))), (2, .int ((s_X4_today r))), (0, .ref (ad 0))]) hx hb dX4_shortestOpenQueue_60 hl (k := 2) rfl rfl (by decide) rfl (fun ls hl => ?_)
            refine lv_goto (tgt := 9) hx hb dX4_shortestOpenQueue_63 (by decide) ?_
            exact ih_9 (some (tn (s_X4_holderOf r y3_9 (s_X4_today r)))) (y3_9 + 1) (i_9 + 1) (by rw [hi_9, nI_1]) hlt_9 (by omega) (fun j h => by cases h; exact (ft_tn h_58)) ls (lv_sub hl [0, 3, 1, 4] rfl) hsp
      | some j_o =>
        have hl : lv_has ls 5 [(3, .int (y3_9)), (2, .int ((s_X4_today r))), (1, .ref (ft_at ad j_o 0)), (0, .ref (ad 0))] := hl
        replace hsp := (ft_op_s _ _ _).symm.trans hsp
        refine lv_iload_n hx hb dX4_shortestOpenQueue_9 rfl (lv_at hl 0 rfl) ?_
        refine lv_iconst (v := 5) hx hb dX4_shortestOpenQueue_10 (by decide) ?_
        refine lv_icmp_ge (tgt := 66) hx hb dX4_shortestOpenQueue_11 (by decide) (fun c_11 => ?_) (fun c_11 => ?_)
        · replace hsp := (if_pos c_11).symm.trans hsp
          exact hKx (some j_o) y3_9 i_9 hi_9 hm_9 (fun j h => by cases h; exact (ho_9 j_o rfl)) ls (lv_sub hl [0, 1, 2, 3] rfl) hsp
        · replace hsp := (if_neg c_11).symm.trans hsp
          have hlt_9 := ft_step hi_9 hm_9 c_11
          refine lv_aload_n hx hb dX4_shortestOpenQueue_14 rfl (lv_at hl 3 rfl) ?_
          refine lv_iload_n hx hb dX4_shortestOpenQueue_15 rfl (lv_at hl 0 rfl) ?_
          refine lv_iload_n hx hb dX4_shortestOpenQueue_16 rfl (lv_at hl 1 rfl) ?_
          refine vp_callSi (va_Run.run (va_runV (As := [.int (y3_9), .int ((s_X4_today r))]) (rest := []) ⟨hx, hb, hml, hown, hts⟩ (c_X4_holderOf l dC ad k r y3_9 (s_X4_today r)) (cwV 2 hts gX4_shortestOpenQueue_X4_holderOf rfl rfl rfl (by decide +kernel) ⟨Nat.le_of_ble_eq_true rfl, Nat.le_of_ble_eq_true rfl⟩) (ft_preVc hK hP (ci := 6) rfl (ft_get' (by decide) rfl)) rfl rfl hl.1 rfl (lv_room (Nat.le_of_ble_eq_true rfl)) dX4_shortestOpenQueue_17 ⟨Nat.le_of_ble_eq_true rfl, Nat.le_of_ble_eq_true rfl⟩)) (fun z hz => ?_)
          subst hz
          refine lv_istore (lv' := [(4, .int ((s_X4_holderOf r y3_9 (s_X4_today r)))), (3, .int (y3_9)), (2, .int ((s_X4_today r))), (1, .ref (ft_at ad j_o 0)), (0, .ref (ad 0))]) hx hb dX4_shortestOpenQueue_20 hl (by decide) rfl (fun ls hl => ?_)
          refine lv_aload_n hx hb dX4_shortestOpenQueue_22 rfl (lv_at hl 4 rfl) ?_
          refine lv_iload hx hb dX4_shortestOpenQueue_23 (lv_at hl 0 rfl) ?_
          refine vp_callSi (va_Run.run (va_runV (As := [.int ((s_X4_holderOf r y3_9 (s_X4_today r)))]) (rest := []) ⟨hx, hb, hml, hown, hts⟩ (c_X4_isTruck l dC ad k r (s_X4_holderOf r y3_9 (s_X4_today r))) (cwV 1 hts gX4_shortestOpenQueue_X4_isTruck rfl rfl rfl (by decide +kernel) ⟨Nat.le_of_ble_eq_true rfl, Nat.le_of_ble_eq_true rfl⟩) (ft_preVc hK hP (ci := 6) rfl (ft_get' (by decide) rfl)) rfl rfl hl.1 rfl (lv_room (Nat.le_of_ble_eq_true rfl)) dX4_shortestOpenQueue_25 ⟨Nat.le_of_ble_eq_true rfl, Nat.le_of_ble_eq_true rfl⟩)) (fun z hz => ?_)
          subst hz
          refine lv_if_eq (tgt := 60) hx hb dX4_shortestOpenQueue_28 (by decide) (fun c_28 => ?_) (fun c_28 => ?_)
          · replace hsp := (if_pos c_28).symm.trans hsp
            refine lv_iinc (v := y3_9 + 1) (lv' := [(3, .int (y3_9 + 1)), (4, .int ((s_X4_holderOf r y3_9 (s_X4_today r)))), (2, .int ((s_X4_today r))), (1, .ref (ft_at ad j_o 0)), (0, .ref (ad 0))]) hx hb dX4_shortestOpenQueue_60 hl (k := 1) rfl rfl (by decide) rfl (fun ls hl => ?_)
            refine lv_goto (tgt := 9) hx hb dX4_shortestOpenQueue_63 (by decide) ?_
            exact ih_9 (some j_o) (y3_9 + 1) (i_9 + 1) (by rw [hi_9, nI_1]) hlt_9 (by omega) (fun j h => by cases h; exact (ho_9 j_o rfl)) ls (lv_sub hl [0, 2, 3, 4] rfl) hsp
          · replace hsp := (if_neg c_28).symm.trans hsp
            refine lv_aload_n hx hb dX4_shortestOpenQueue_31 rfl (lv_at hl 3 rfl) ?_
            refine lv_ifnull hx hb dX4_shortestOpenQueue_32 ?_
            refine lv_aload_n hx hb dX4_shortestOpenQueue_35 rfl (lv_at hl 4 rfl) ?_
            refine va_get (D := dC) (ci := 6) (v := .ref (ad 1)) (C := RX4) (T := TX4) (N := 12) hx hb hts (by decide +kernel) hown hK.1 hP 0 (ft_get' (by decide) rfl) rfl 0 (by decide) (hts (.fieldLink RX4 11 "FoodTruckRota$Square" "trucks" "[LFoodTruckRota$Truck;") (by decide +kernel)) (fun _ h9 => h9) rfl dX4_shortestOpenQueue_36 ?_
            refine lv_iload hx hb dX4_shortestOpenQueue_39 (lv_at hl 0 rfl) ?_
            have h_41 : vp_in (s_X4_holderOf r y3_9 (s_X4_today r)) 6 := by first | assumption | exact isTruck_in (by assumption) | exact isDish_in (by assumption)
            refine va_aldq (C := RX6) hx hb hK.1 hP 1 1 (ft_get' (by decide) rfl) rfl h_41 dX4_shortestOpenQueue_41 ?_
            refine W.eq (g2 := F0 m 42 ls [.ref (ft_at ad (tn (s_X4_holderOf r y3_9 (s_X4_today r))) 0)]) rfl ?_
            refine va_getN (D := dC) (ci := 8) (v := .int (r (51 + 17 * (tn (s_X4_holderOf r y3_9 (s_X4_today r))) + 2))) (C := RX6) (T := TX6) (N := 6) hx hb hts (by decide +kernel) hown hK.1 (ft_S_P hP (ft_tn h_41)) 0 (ft_get' (by decide) rfl) rfl 2 (by decide) (ft_nl hK.2 2 rfl) (fun _ h9 => h9) rfl dX4_shortestOpenQueue_42 ?_
            refine lv_aload_n hx hb dX4_shortestOpenQueue_45 rfl (lv_at hl 3 rfl) ?_
            refine va_getN (D := dC) (ci := 8) (v := .int (r (51 + 17 * j_o + 2))) (C := RX6) (T := TX6) (N := 6) hx hb hts (by decide +kernel) hown hK.1 (ft_S_P hP (ho_9 j_o rfl)) 0 (ft_get' (by decide) rfl) rfl 2 (by decide) (ft_nl hK.2 2 rfl) (fun _ h9 => h9) rfl dX4_shortestOpenQueue_46 ?_
            refine lv_icmp_ge (tgt := 60) hx hb dX4_shortestOpenQueue_49 (by decide) (fun c_49 => ?_) (fun c_49 => ?_)
            · replace hsp := (if_pos c_49).symm.trans hsp
              refine lv_iinc (v := y3_9 + 1) (lv' := [(3, .int (y3_9 + 1)), (4, .int ((s_X4_holderOf r y3_9 (s_X4_today r)))), (2, .int ((s_X4_today r))), (1, .ref (ft_at ad j_o 0)), (0, .ref (ad 0))]) hx hb dX4_shortestOpenQueue_60 hl (k := 1) rfl rfl (by decide) rfl (fun ls hl => ?_)
              refine lv_goto (tgt := 9) hx hb dX4_shortestOpenQueue_63 (by decide) ?_
              exact ih_9 (some j_o) (y3_9 + 1) (i_9 + 1) (by rw [hi_9, nI_1]) hlt_9 (by omega) (fun j h => by cases h; exact (ho_9 j_o rfl)) ls (lv_sub hl [0, 2, 3, 4] rfl) hsp
            · replace hsp := (if_neg c_49).symm.trans hsp
              refine lv_aload_n hx hb dX4_shortestOpenQueue_52 rfl (lv_at hl 4 rfl) ?_
              refine va_get (D := dC) (ci := 6) (v := .ref (ad 1)) (C := RX4) (T := TX4) (N := 12) hx hb hts (by decide +kernel) hown hK.1 hP 0 (ft_get' (by decide) rfl) rfl 0 (by decide) (hts (.fieldLink RX4 11 "FoodTruckRota$Square" "trucks" "[LFoodTruckRota$Truck;") (by decide +kernel)) (fun _ h9 => h9) rfl dX4_shortestOpenQueue_53 ?_
              refine lv_iload hx hb dX4_shortestOpenQueue_56 (lv_at hl 0 rfl) ?_
              have h_58 : vp_in (s_X4_holderOf r y3_9 (s_X4_today r)) 6 := by first | assumption | exact isTruck_in (by assumption) | exact isDish_in (by assumption)
              refine va_aldq (C := RX6) hx hb hK.1 hP 1 1 (ft_get' (by decide) rfl) rfl h_58 dX4_shortestOpenQueue_58 ?_
              refine W.eq (g2 := F0 m 59 ls [.ref (ft_at ad (tn (s_X4_holderOf r y3_9 (s_X4_today r))) 0)]) rfl ?_
              refine lv_astore_n (lv' := [(1, .ref (ft_at ad (tn (s_X4_holderOf r y3_9 (s_X4_today r))) 0)), (4, .int ((s_X4_holderOf r y3_9 (s_X4_today r)))), (3, .int (y3_9)), (2, .int ((s_X4_today r))), (0, .ref (ad 0))]) hx hb dX4_shortestOpenQueue_59 rfl hl (by decide) rfl (fun ls hl => ?_)
              refine lv_iinc (v := y3_9 + 1) (lv' := [(3, .int (y3_9 + 1)), (1, .ref (ft_at ad (tn (s_X4_holderOf r y3_9 (s_X4_today r))) 0)), (4, .int ((s_X4_holderOf r y3_9 (s_X4_today r)))), (2, .int ((s_X4_today r))), (0, .ref (ad 0))]) hx hb dX4_shortestOpenQueue_60 hl (k := 2) rfl rfl (by decide) rfl (fun ls hl => ?_)
              refine lv_goto (tgt := 9) hx hb dX4_shortestOpenQueue_63 (by decide) ?_
              exact ih_9 (some (tn (s_X4_holderOf r y3_9 (s_X4_today r)))) (y3_9 + 1) (i_9 + 1) (by rw [hi_9, nI_1]) hlt_9 (by omega) (fun j h => by cases h; exact (ft_tn h_58)) ls (lv_sub hl [0, 3, 1, 4] rfl) hsp
  refine loop_9 _ (fun y1_9 y3_9 i_9 hi_9 hm_9 ho_9 ls hl hsp => ?_) (tn 5 + 1) none 0 0 rfl (by omega) (by omega) (fun j h => by cases h) ls (lv_sub hl [0, 1, 2, 3] rfl) hsp
  cases y1_9 with
  | none =>
    have hl : lv_has ls 5 [(3, .int (y3_9)), (2, .int ((s_X4_today r))), (1, .null), (0, .ref (ad 0))] := hl
    replace hsp := (ft_op_n _ _).symm.trans hsp
    refine lv_aload_nN hx hb dX4_shortestOpenQueue_66 rfl (lv_at hl 2 rfl) ?_
    exact W.aret (v := .null) hx hb hr (Or.inl ⟨_, rfl⟩) (Or.inl rfl) (fun t ht hW => ⟨none, rfl, ⟨hsp, (fun j h => by cases h)⟩, ht⟩) (fun _ h => absurd h List.not_mem_nil) dX4_shortestOpenQueue_67
  | some j_o =>
    have hl : lv_has ls 5 [(3, .int (y3_9)), (2, .int ((s_X4_today r))), (1, .ref (ft_at ad j_o 0)), (0, .ref (ad 0))] := hl
    replace hsp := (ft_op_s _ _ _).symm.trans hsp
    refine lv_aload_n hx hb dX4_shortestOpenQueue_66 rfl (lv_at hl 2 rfl) ?_
    exact W.aret (v := .ref (ft_at ad j_o 0)) hx hb hr (Or.inl ⟨_, rfl⟩) (Or.inr ⟨_, rfl⟩) (fun t ht hW => ⟨some j_o, rfl, ⟨hsp, (fun j h => by cases h; exact (ho_9 j_o rfl))⟩, ht⟩) (fun _ h => absurd h List.not_mem_nil) dX4_shortestOpenQueue_67
