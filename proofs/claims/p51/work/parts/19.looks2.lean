def s_X7_isConsistent (q : Nat → Nat → Int32) (o : Nat → Int32)  : Int32 := if (s_X4_countByPitches (q 0)) = (s_X4_countByTrucks (q 0)) then (if (q 0 4) = ((((q 0 5) + (q 0 6)) + (q 0 7)) + (s_X4_sumOfQueues (q 0))) then (if (s_X4_everyHolderIsPermitted (q 0)) = 0 then (0) else (if (q 0 5) = (s_X4_sumOfSold (q 0)) then (1) else (0))) else (0)) else (0)
set_option maxHeartbeats 4000000 in
set_option maxRecDepth 100000 in
theorem c_X7_isConsistent (l : Launch) (dC : va_G) (Z : Nat → Nat → Nat) (ad : Nat → Nat) (k : Nat → ClassId) (q : Nat → Nat → Int32) (pm : Nat → Nat) (o : Nat → Int32) (g : ft_G) : Met l yX7_isConsistent wsX7_isConsistent ({ frames := 4, cells := 0, slots := 0, locals := 90 }) (ft_Pc dC k [.ref (ad 253)] (ft_WR ad k Z q pm o g)) (vp_Si (fun z : Int32 => z = s_X7_isConsistent q o)) 0 0 (fun _ => False) := by
  refine Met.ofW (cc := cX7_isConsistent) (maxL := 1) (ret := (some .boolean)) (by decide) rfl ?_
  intro p e s m args below meth c s₁ B hml hv
  obtain ⟨hargs, hP, hK⟩ := hv
  subst hargs
  have hx := B.exec
  have hb := B.bytes
  have hr := B.returns
  have hts := atoms_spec (ws := wsX7_isConsistent) B.pre
  have hown : s.vm.findClass RX7 = some m.cls := findClass_of_methodNamed B.named
  have hlocks := B.notSynchronized
  have hl := lv_entry ([.ref (ad 253)]) (n := 1) (Nat.le_of_ble_eq_true rfl)
  rw [lg_entry_eq]
  generalize (lg_sl ([.ref (ad 253)]) ++ List.replicate (1 - (lg_sl ([.ref (ad 253)])).length) Slot.unset).toArray = ls at hl ⊢
  have hl : lv_has ls 1 [(0, .ref (ad 253))] := hl
  have hsp := (s_X7_isConsistent.eq_1 q o ).symm
  refine lv_aload_n hx hb dX7_isConsistent_0 rfl (lv_at hl 0 rfl) ?_
  refine va_get (D := dC) (ci := 9) (v := .ref (ft_sq ad 0 0)) (C := RX7) (T := TX7) (N := 9) hx hb hts (by decide +kernel) hown hK.1 hP 253 (ft_get' (by decide) rfl) rfl 0 (by decide) (hts (.fieldLink RX7 12 "FoodTruckRota" "square" "LFoodTruckRota$Square;") (by decide +kernel)) (fun _ h9 => h9) rfl dX7_isConsistent_1 ?_
  refine vp_callSi (va_Run.run (va_runV (As := []) (rest := []) ⟨hx, hb, hml, hown, hts⟩ (c_X4_countByPitches l dC (ft_sq ad 0) k (q 0)) (cwV 0 hts gX7_isConsistent_X4_countByPitches rfl rfl rfl (by decide +kernel) ⟨Nat.le_of_ble_eq_true rfl, Nat.le_of_ble_eq_true rfl⟩) (ft_preVc hK (ft_R_S hP (s := 0) (by decide)) (ci := 6) rfl (ft_get' (by decide) rfl)) rfl rfl hl.1 rfl (lv_room (Nat.le_of_ble_eq_true rfl)) dX7_isConsistent_4 ⟨Nat.le_of_ble_eq_true rfl, Nat.le_of_ble_eq_true rfl⟩)) (fun z hz => ?_)
  subst hz
  refine lv_aload_n hx hb dX7_isConsistent_7 rfl (lv_at hl 0 rfl) ?_
  refine va_get (D := dC) (ci := 9) (v := .ref (ft_sq ad 0 0)) (C := RX7) (T := TX7) (N := 9) hx hb hts (by decide +kernel) hown hK.1 hP 253 (ft_get' (by decide) rfl) rfl 0 (by decide) (hts (.fieldLink RX7 12 "FoodTruckRota" "square" "LFoodTruckRota$Square;") (by decide +kernel)) (fun _ h9 => h9) rfl dX7_isConsistent_8 ?_
  refine vp_callSi (va_Run.run (va_runV (As := []) (rest := [.int ((s_X4_countByPitches (q 0)))]) ⟨hx, hb, hml, hown, hts⟩ (c_X4_countByTrucks l dC (ft_sq ad 0) k (q 0)) (cwV 0 hts gX7_isConsistent_X4_countByTrucks rfl rfl rfl (by decide +kernel) ⟨Nat.le_of_ble_eq_true rfl, Nat.le_of_ble_eq_true rfl⟩) (ft_preVc hK (ft_R_S hP (s := 0) (by decide)) (ci := 6) rfl (ft_get' (by decide) rfl)) rfl rfl hl.1 rfl (lv_room (Nat.le_of_ble_eq_true rfl)) dX7_isConsistent_11 ⟨Nat.le_of_ble_eq_true rfl, Nat.le_of_ble_eq_true rfl⟩)) (fun z hz => ?_)
  subst hz
  refine lv_icmp_ne (tgt := 89) hx hb dX7_isConsistent_14 (by decide) (fun c_14 => ?_) (fun c_14 => ?_)
  · replace hsp := (if_neg c_14).symm.trans hsp
    refine lv_iconst (v := 0) hx hb dX7_isConsistent_89 (by decide) ?_
    exact W.zret (v := 0) hx hb hr (rfl) (fun t ht hW => ft_endi (post := fun z : Int32 => z = s_X7_isConsistent q o) hsp ht) (fun _ h => absurd h List.not_mem_nil) dX7_isConsistent_90
  · replace hsp := (if_pos c_14).symm.trans hsp
    refine lv_aload_n hx hb dX7_isConsistent_17 rfl (lv_at hl 0 rfl) ?_
    refine va_get (D := dC) (ci := 9) (v := .ref (ft_sq ad 0 0)) (C := RX7) (T := TX7) (N := 9) hx hb hts (by decide +kernel) hown hK.1 hP 253 (ft_get' (by decide) rfl) rfl 0 (by decide) (hts (.fieldLink RX7 12 "FoodTruckRota" "square" "LFoodTruckRota$Square;") (by decide +kernel)) (fun _ h9 => h9) rfl dX7_isConsistent_18 ?_
    refine va_getN (D := dC) (ci := 6) (v := .int (q 0 4)) (C := RX4) (T := TX4) (N := 12) hx hb hts (by decide +kernel) hown hK.1 (ft_R_S hP (s := 0) (by decide)) 0 (ft_get' (by decide) rfl) rfl 8 (by decide) (ft_nl hK.2 15 rfl) (fun _ h9 => h9) rfl dX7_isConsistent_21 ?_
    refine lv_aload_n hx hb dX7_isConsistent_24 rfl (lv_at hl 0 rfl) ?_
    refine va_get (D := dC) (ci := 9) (v := .ref (ft_sq ad 0 0)) (C := RX7) (T := TX7) (N := 9) hx hb hts (by decide +kernel) hown hK.1 hP 253 (ft_get' (by decide) rfl) rfl 0 (by decide) (hts (.fieldLink RX7 12 "FoodTruckRota" "square" "LFoodTruckRota$Square;") (by decide +kernel)) (fun _ h9 => h9) rfl dX7_isConsistent_25 ?_
    refine va_getN (D := dC) (ci := 6) (v := .int (q 0 5)) (C := RX4) (T := TX4) (N := 12) hx hb hts (by decide +kernel) hown hK.1 (ft_R_S hP (s := 0) (by decide)) 0 (ft_get' (by decide) rfl) rfl 9 (by decide) (ft_nl hK.2 16 rfl) (fun _ h9 => h9) rfl dX7_isConsistent_28 ?_
    refine lv_aload_n hx hb dX7_isConsistent_31 rfl (lv_at hl 0 rfl) ?_
    refine va_get (D := dC) (ci := 9) (v := .ref (ft_sq ad 0 0)) (C := RX7) (T := TX7) (N := 9) hx hb hts (by decide +kernel) hown hK.1 hP 253 (ft_get' (by decide) rfl) rfl 0 (by decide) (hts (.fieldLink RX7 12 "FoodTruckRota" "square" "LFoodTruckRota$Square;") (by decide +kernel)) (fun _ h9 => h9) rfl dX7_isConsistent_32 ?_
    refine va_getN (D := dC) (ci := 6) (v := .int (q 0 6)) (C := RX4) (T := TX4) (N := 12) hx hb hts (by decide +kernel) hown hK.1 (ft_R_S hP (s := 0) (by decide)) 0 (ft_get' (by decide) rfl) rfl 10 (by decide) (ft_nl hK.2 17 rfl) (fun _ h9 => h9) rfl dX7_isConsistent_35 ?_
    refine lv_iadd hx hb dX7_isConsistent_38 ?_
    refine lv_aload_n hx hb dX7_isConsistent_39 rfl (lv_at hl 0 rfl) ?_
    refine va_get (D := dC) (ci := 9) (v := .ref (ft_sq ad 0 0)) (C := RX7) (T := TX7) (N := 9) hx hb hts (by decide +kernel) hown hK.1 hP 253 (ft_get' (by decide) rfl) rfl 0 (by decide) (hts (.fieldLink RX7 12 "FoodTruckRota" "square" "LFoodTruckRota$Square;") (by decide +kernel)) (fun _ h9 => h9) rfl dX7_isConsistent_40 ?_
    refine va_getN (D := dC) (ci := 6) (v := .int (q 0 7)) (C := RX4) (T := TX4) (N := 12) hx hb hts (by decide +kernel) hown hK.1 (ft_R_S hP (s := 0) (by decide)) 0 (ft_get' (by decide) rfl) rfl 11 (by decide) (ft_nl hK.2 18 rfl) (fun _ h9 => h9) rfl dX7_isConsistent_43 ?_
    refine lv_iadd hx hb dX7_isConsistent_46 ?_
    refine lv_aload_n hx hb dX7_isConsistent_47 rfl (lv_at hl 0 rfl) ?_
    refine va_get (D := dC) (ci := 9) (v := .ref (ft_sq ad 0 0)) (C := RX7) (T := TX7) (N := 9) hx hb hts (by decide +kernel) hown hK.1 hP 253 (ft_get' (by decide) rfl) rfl 0 (by decide) (hts (.fieldLink RX7 12 "FoodTruckRota" "square" "LFoodTruckRota$Square;") (by decide +kernel)) (fun _ h9 => h9) rfl dX7_isConsistent_48 ?_
    refine vp_callSi (va_Run.run (va_runV (As := []) (rest := [.int (((q 0 5) + (q 0 6)) + (q 0 7)), .int (q 0 4)]) ⟨hx, hb, hml, hown, hts⟩ (c_X4_sumOfQueues l dC (ft_sq ad 0) k (q 0)) (cwV 0 hts gX7_isConsistent_X4_sumOfQueues rfl rfl rfl (by decide +kernel) ⟨Nat.le_of_ble_eq_true rfl, Nat.le_of_ble_eq_true rfl⟩) (ft_preVc hK (ft_R_S hP (s := 0) (by decide)) (ci := 6) rfl (ft_get' (by decide) rfl)) rfl rfl hl.1 rfl (lv_room (Nat.le_of_ble_eq_true rfl)) dX7_isConsistent_51 ⟨Nat.le_of_ble_eq_true rfl, Nat.le_of_ble_eq_true rfl⟩)) (fun z hz => ?_)
    subst hz
    refine lv_iadd hx hb dX7_isConsistent_54 ?_
    refine lv_icmp_ne (tgt := 89) hx hb dX7_isConsistent_55 (by decide) (fun c_55 => ?_) (fun c_55 => ?_)
    · replace hsp := (if_neg c_55).symm.trans hsp
      refine lv_iconst (v := 0) hx hb dX7_isConsistent_89 (by decide) ?_
      exact W.zret (v := 0) hx hb hr (rfl) (fun t ht hW => ft_endi (post := fun z : Int32 => z = s_X7_isConsistent q o) hsp ht) (fun _ h => absurd h List.not_mem_nil) dX7_isConsistent_90
    · replace hsp := (if_pos c_55).symm.trans hsp
      refine lv_aload_n hx hb dX7_isConsistent_58 rfl (lv_at hl 0 rfl) ?_
      refine va_get (D := dC) (ci := 9) (v := .ref (ft_sq ad 0 0)) (C := RX7) (T := TX7) (N := 9) hx hb hts (by decide +kernel) hown hK.1 hP 253 (ft_get' (by decide) rfl) rfl 0 (by decide) (hts (.fieldLink RX7 12 "FoodTruckRota" "square" "LFoodTruckRota$Square;") (by decide +kernel)) (fun _ h9 => h9) rfl dX7_isConsistent_59 ?_
      refine vp_callSi (va_Run.run (va_runV (As := []) (rest := []) ⟨hx, hb, hml, hown, hts⟩ (c_X4_everyHolderIsPermitted l dC (ft_sq ad 0) k (q 0)) (cwV 0 hts gX7_isConsistent_X4_everyHolderIsPermitted rfl rfl rfl (by decide +kernel) ⟨Nat.le_of_ble_eq_true rfl, Nat.le_of_ble_eq_true rfl⟩) (ft_preVc hK (ft_R_S hP (s := 0) (by decide)) (ci := 6) rfl (ft_get' (by decide) rfl)) rfl rfl hl.1 rfl (lv_room (Nat.le_of_ble_eq_true rfl)) dX7_isConsistent_62 ⟨Nat.le_of_ble_eq_true rfl, Nat.le_of_ble_eq_true rfl⟩)) (fun z hz => ?_)
      subst hz
      refine lv_if_eq (tgt := 89) hx hb dX7_isConsistent_65 (by decide) (fun c_65 => ?_) (fun c_65 => ?_)
      · replace hsp := (if_pos c_65).symm.trans hsp
        refine lv_iconst (v := 0) hx hb dX7_isConsistent_89 (by decide) ?_
        exact W.zret (v := 0) hx hb hr (rfl) (fun t ht hW => ft_endi (post := fun z : Int32 => z = s_X7_isConsistent q o) hsp ht) (fun _ h => absurd h List.not_mem_nil) dX7_isConsistent_90
      · replace hsp := (if_neg c_65).symm.trans hsp
        refine lv_aload_n hx hb dX7_isConsistent_68 rfl (lv_at hl 0 rfl) ?_
        refine va_get (D := dC) (ci := 9) (v := .ref (ft_sq ad 0 0)) (C := RX7) (T := TX7) (N := 9) hx hb hts (by decide +kernel) hown hK.1 hP 253 (ft_get' (by decide) rfl) rfl 0 (by decide) (hts (.fieldLink RX7 12 "FoodTruckRota" "square" "LFoodTruckRota$Square;") (by decide +kernel)) (fun _ h9 => h9) rfl dX7_isConsistent_69 ?_
        refine va_getN (D := dC) (ci := 6) (v := .int (q 0 5)) (C := RX4) (T := TX4) (N := 12) hx hb hts (by decide +kernel) hown hK.1 (ft_R_S hP (s := 0) (by decide)) 0 (ft_get' (by decide) rfl) rfl 9 (by decide) (ft_nl hK.2 16 rfl) (fun _ h9 => h9) rfl dX7_isConsistent_72 ?_
        refine lv_aload_n hx hb dX7_isConsistent_75 rfl (lv_at hl 0 rfl) ?_
        refine va_get (D := dC) (ci := 9) (v := .ref (ft_sq ad 0 0)) (C := RX7) (T := TX7) (N := 9) hx hb hts (by decide +kernel) hown hK.1 hP 253 (ft_get' (by decide) rfl) rfl 0 (by decide) (hts (.fieldLink RX7 12 "FoodTruckRota" "square" "LFoodTruckRota$Square;") (by decide +kernel)) (fun _ h9 => h9) rfl dX7_isConsistent_76 ?_
        refine vp_callSi (va_Run.run (va_runV (As := []) (rest := [.int (q 0 5)]) ⟨hx, hb, hml, hown, hts⟩ (c_X4_sumOfSold l dC (ft_sq ad 0) k (q 0)) (cwV 0 hts gX7_isConsistent_X4_sumOfSold rfl rfl rfl (by decide +kernel) ⟨Nat.le_of_ble_eq_true rfl, Nat.le_of_ble_eq_true rfl⟩) (ft_preVc hK (ft_R_S hP (s := 0) (by decide)) (ci := 6) rfl (ft_get' (by decide) rfl)) rfl rfl hl.1 rfl (lv_room (Nat.le_of_ble_eq_true rfl)) dX7_isConsistent_79 ⟨Nat.le_of_ble_eq_true rfl, Nat.le_of_ble_eq_true rfl⟩)) (fun z hz => ?_)
        subst hz
        refine lv_icmp_ne (tgt := 89) hx hb dX7_isConsistent_82 (by decide) (fun c_82 => ?_) (fun c_82 => ?_)
        · replace hsp := (if_neg c_82).symm.trans hsp
          refine lv_iconst (v := 0) hx hb dX7_isConsistent_89 (by decide) ?_
          exact W.zret (v := 0) hx hb hr (rfl) (fun t ht hW => ft_endi (post := fun z : Int32 => z = s_X7_isConsistent q o) hsp ht) (fun _ h => absurd h List.not_mem_nil) dX7_isConsistent_90
        · replace hsp := (if_pos c_82).symm.trans hsp
          refine lv_iconst (v := 1) hx hb dX7_isConsistent_85 (by decide) ?_
          refine lv_goto (tgt := 90) hx hb dX7_isConsistent_86 (by decide) ?_
          exact W.zret (v := 1) hx hb hr (rfl) (fun t ht hW => ft_endi (post := fun z : Int32 => z = s_X7_isConsistent q o) hsp ht) (fun _ h => absurd h List.not_mem_nil) dX7_isConsistent_90

/-- the same for doubles and floats -/
def ft_Qxd (r : Except String UInt64) : Array Value → State → Outcome → State → Prop := va_Qd (fun (z : UInt64) (_ : Unit) => r = .ok z) (fun _ _ => True) (fun _ => False)
def ft_Qxf (r : Except String UInt32) : Array Value → State → Outcome → State → Prop := va_Qf (fun (z : UInt32) (_ : Unit) => r = .ok z) (fun _ _ => True) (fun _ => False)

def s_X7_meanCoins (q : Nat → Nat → Int32) (o : Nat → Int32)  : Except String UInt64 := if (q 0 0) = 0 then (.error "java/lang/ArithmeticException") else (.ok (FP.ddiv (FP.i2d (s_X4_sumOfCoins (q 0))) (FP.i2d (q 0 0))))
set_option maxHeartbeats 4000000 in
set_option maxRecDepth 100000 in
theorem c_X7_meanCoins (l : Launch) (hl0 : l.stackTraces = false) (dC : va_G) (Z : Nat → Nat → Nat) (A : Nat → Prop) (ad : Nat → Nat) (k : Nat → ClassId) (q : Nat → Nat → Int32) (pm : Nat → Nat) (o : Nat → Int32) (g : ft_G)  (hna : ¬ q 0 0 = 0 → vf_n64 (FP.ddiv (FP.i2d (s_X4_sumOfCoins (q 0))) (FP.i2d (q 0 0)))): vx_Met l yX7_meanCoins wsX7_meanCoins ({ frames := 6, cells := 1, slots := 6, locals := 90 }) (ft_Pe dC k Z A [.ref (ad 253)] (ft_WR ad k Z q pm o g)) (ft_Qxd (s_X7_meanCoins q o)) (ft_Xx (s_X7_meanCoins q o)) 1 6 (fun _ => False) := by
  refine vx_ofW (cc := cX7_meanCoins) (maxL := 1) (ret := (some .double)) (by decide) rfl ?_
  intro p e s m args below meth c s₁ B hml hnt hv
  obtain ⟨hargs, hP, hE⟩ := hv
  have hK := hE.1
  subst hargs
  have hx := B.exec
  have hb := B.bytes
  have hr := B.returns
  have hts := atoms_spec (ws := wsX7_meanCoins) B.pre
  have hown : s.vm.findClass RX7 = some m.cls := findClass_of_methodNamed B.named
  have hlocks := B.notSynchronized
  have hS0 : va_S (fun _ => False) s.heap s.heap [] := va_S.rf
  have hl := lv_entry ([.ref (ad 253)]) (n := 1) (Nat.le_of_ble_eq_true rfl)
  rw [lg_entry_eq]
  generalize (lg_sl ([.ref (ad 253)]) ++ List.replicate (1 - (lg_sl ([.ref (ad 253)])).length) Slot.unset).toArray = ls at hl ⊢
  have hl : lv_has ls 1 [(0, .ref (ad 253))] := hl
  have hsp := (s_X7_meanCoins.eq_1 q o ).symm
  refine lv_aload_n hx hb dX7_meanCoins_0 rfl (lv_at hl 0 rfl) ?_
  refine va_get (D := dC) (ci := 9) (v := .ref (ft_sq ad 0 0)) (C := RX7) (T := TX7) (N := 9) hx hb hts (by decide +kernel) hown hK.1 hP 253 (ft_get' (by decide) rfl) rfl 0 (by decide) (hts (.fieldLink RX7 12 "FoodTruckRota" "square" "LFoodTruckRota$Square;") (by decide +kernel)) (fun _ h9 => h9) rfl dX7_meanCoins_1 ?_
  refine va_getN (D := dC) (ci := 6) (v := .int (q 0 0)) (C := RX4) (T := TX4) (N := 12) hx hb hts (by decide +kernel) hown hK.1 (ft_R_S hP (s := 0) (by decide)) 0 (ft_get' (by decide) rfl) rfl 4 (by decide) (ft_nl hK.2 11 rfl) (fun _ h9 => h9) rfl dX7_meanCoins_4 ?_
  refine lv_if_ne (tgt := 20) hx hb dX7_meanCoins_7 (by decide) (fun c_7 => ?_) (fun c_7 => ?_)
  · replace hsp := (if_neg c_7).symm.trans hsp
    refine lv_aload_n hx hb dX7_meanCoins_20 rfl (lv_at hl 0 rfl) ?_
    refine va_get (D := dC) (ci := 9) (v := .ref (ft_sq ad 0 0)) (C := RX7) (T := TX7) (N := 9) hx hb hts (by decide +kernel) hown hK.1 hP 253 (ft_get' (by decide) rfl) rfl 0 (by decide) (hts (.fieldLink RX7 12 "FoodTruckRota" "square" "LFoodTruckRota$Square;") (by decide +kernel)) (fun _ h9 => h9) rfl dX7_meanCoins_21 ?_
    refine vp_callSi (va_Run.run (va_runV (As := []) (rest := []) ⟨hx, hb, hml, hown, hts⟩ (c_X4_sumOfCoins l dC (ft_sq ad 0) k (q 0)) (cwV 0 hts gX7_meanCoins_X4_sumOfCoins rfl rfl rfl (by decide +kernel) ⟨Nat.le_of_ble_eq_true rfl, Nat.le_of_ble_eq_true rfl⟩) (ft_preVc hK (ft_R_S hP (s := 0) (by decide)) (ci := 6) rfl (ft_get' (by decide) rfl)) rfl rfl hl.1 rfl (lv_room (Nat.le_of_ble_eq_true rfl)) dX7_meanCoins_24 ⟨Nat.le_of_ble_eq_true rfl, Nat.le_of_ble_eq_true rfl⟩)) (fun z hz => ?_)
    subst hz
    refine lv_i2d hx hb dX7_meanCoins_27 ?_
    refine lv_aload_n hx hb dX7_meanCoins_28 rfl (lv_at hl 0 rfl) ?_
    refine va_get (D := dC) (ci := 9) (v := .ref (ft_sq ad 0 0)) (C := RX7) (T := TX7) (N := 9) hx hb hts (by decide +kernel) hown hK.1 hP 253 (ft_get' (by decide) rfl) rfl 0 (by decide) (hts (.fieldLink RX7 12 "FoodTruckRota" "square" "LFoodTruckRota$Square;") (by decide +kernel)) (fun _ h9 => h9) rfl dX7_meanCoins_29 ?_
    refine va_getN (D := dC) (ci := 6) (v := .int (q 0 0)) (C := RX4) (T := TX4) (N := 12) hx hb hts (by decide +kernel) hown hK.1 (ft_R_S hP (s := 0) (by decide)) 0 (ft_get' (by decide) rfl) rfl 4 (by decide) (ft_nl hK.2 11 rfl) (fun _ h9 => h9) rfl dX7_meanCoins_32 ?_
    refine lv_i2d hx hb dX7_meanCoins_35 ?_
    refine lv_ddiv hx hb dX7_meanCoins_36 (hna c_7) ?_
    refine vx_ret ?_
    refine W.widen (k := 1) (n := 6) (by decide) (by decide) ?_
    exact W.dret (v := FP.ddiv (FP.i2d (s_X4_sumOfCoins (q 0))) (FP.i2d (q 0 0))) hx hb hr (fun t ht hW => ⟨⟨FP.ddiv (FP.i2d (s_X4_sumOfCoins (q 0))) (FP.i2d (q 0 0)), (), rfl, hsp.symm, trivial⟩, ft_Fx hS0 (by rw [ht]; exact Nat.le_refl _) (fun q _ => by rw [ht])⟩) (fun z hz => (hS0.2.2 z hz).elim) dX7_meanCoins_37
  · replace hsp := (if_pos c_7).symm.trans hsp
    obtain ⟨sa, hsa⟩ := hE.2.1.2.1 (RX7, 199, "there are no trucks") (List.mem_of_getElem? (i := 16) rfl)
    exact vx_throwS (text := "there are no trucks") (names := ["java/lang/RuntimeException", "java/lang/Exception"]) hx hb hl0 hown (by decide +kernel) (by decide +kernel) (hts (.classLink RX7 197 "java/lang/ArithmeticException") (by decide +kernel)) (hts (.initialized "java/lang/ArithmeticException") (by decide +kernel)) hsa (vx_hat (fun w h => hts w (List.mem_cons_of_mem _ (List.mem_append_right _ h))) (by decide +kernel) (ft_xw hE "java/lang/ArithmeticException" (by decide +kernel))) (by decide +kernel) hE.2.2.us hE.2.2.ss (ft_Sm hS0) (hl.1.trans hml.symm) dX7_meanCoins_10 dX7_meanCoins_13 dX7_meanCoins_14 dX7_meanCoins_16 dX7_meanCoins_19 (fun x hx9 => (hnt x hx9).elim) (Nat.le_of_ble_eq_true rfl) (Nat.le_of_ble_eq_true rfl) (Nat.le_of_ble_eq_true rfl) (Nat.le_of_ble_eq_true rfl) hlocks (fun t _ h1 h2 => ⟨(), trivial, hsp.symm, ft_Fx hS0 h1 h2⟩) (fun z hz => (hS0.2.2 z hz).elim) (by decide) (by decide)

def s_X7_servedShare (q : Nat → Nat → Int32) (o : Nat → Int32)  : Except String UInt32 := if (q 0 4) = 0 then (.error "java/lang/ArithmeticException") else (.ok (FP.fdiv (FP.i2f (q 0 5)) (FP.i2f (q 0 4))))
set_option maxHeartbeats 4000000 in
set_option maxRecDepth 100000 in
theorem c_X7_servedShare (l : Launch) (hl0 : l.stackTraces = false) (dC : va_G) (Z : Nat → Nat → Nat) (A : Nat → Prop) (ad : Nat → Nat) (k : Nat → ClassId) (q : Nat → Nat → Int32) (pm : Nat → Nat) (o : Nat → Int32) (g : ft_G)  (hna : ¬ q 0 4 = 0 → vf_n32 (FP.fdiv (FP.i2f (q 0 5)) (FP.i2f (q 0 4)))): vx_Met l yX7_servedShare wsX7_servedShare ({ frames := 6, cells := 1, slots := 6, locals := 90 }) (ft_Pe dC k Z A [.ref (ad 253)] (ft_WR ad k Z q pm o g)) (ft_Qxf (s_X7_servedShare q o)) (ft_Xx (s_X7_servedShare q o)) 1 6 (fun _ => False) := by
  refine vx_ofW (cc := cX7_servedShare) (maxL := 1) (ret := (some .float)) (by decide) rfl ?_
  intro p e s m args below meth c s₁ B hml hnt hv
  obtain ⟨hargs, hP, hE⟩ := hv
  have hK := hE.1
  subst hargs
  have hx := B.exec
  have hb := B.bytes
  have hr := B.returns
  have hts := atoms_spec (ws := wsX7_servedShare) B.pre
  have hown : s.vm.findClass RX7 = some m.cls := findClass_of_methodNamed B.named
  have hlocks := B.notSynchronized
  have hS0 : va_S (fun _ => False) s.heap s.heap [] := va_S.rf
  have hl := lv_entry ([.ref (ad 253)]) (n := 1) (Nat.le_of_ble_eq_true rfl)
  rw [lg_entry_eq]
  generalize (lg_sl ([.ref (ad 253)]) ++ List.replicate (1 - (lg_sl ([.ref (ad 253)])).length) Slot.unset).toArray = ls at hl ⊢
  have hl : lv_has ls 1 [(0, .ref (ad 253))] := hl
  have hsp := (s_X7_servedShare.eq_1 q o ).symm
  refine lv_aload_n hx hb dX7_servedShare_0 rfl (lv_at hl 0 rfl) ?_
  refine va_get (D := dC) (ci := 9) (v := .ref (ft_sq ad 0 0)) (C := RX7) (T := TX7) (N := 9) hx hb hts (by decide +kernel) hown hK.1 hP 253 (ft_get' (by decide) rfl) rfl 0 (by decide) (hts (.fieldLink RX7 12 "FoodTruckRota" "square" "LFoodTruckRota$Square;") (by decide +kernel)) (fun _ h9 => h9) rfl dX7_servedShare_1 ?_
  refine va_getN (D := dC) (ci := 6) (v := .int (q 0 4)) (C := RX4) (T := TX4) (N := 12) hx hb hts (by decide +kernel) hown hK.1 (ft_R_S hP (s := 0) (by decide)) 0 (ft_get' (by decide) rfl) rfl 8 (by decide) (ft_nl hK.2 15 rfl) (fun _ h9 => h9) rfl dX7_servedShare_4 ?_
  refine lv_if_ne (tgt := 20) hx hb dX7_servedShare_7 (by decide) (fun c_7 => ?_) (fun c_7 => ?_)
  · replace hsp := (if_neg c_7).symm.trans hsp
    refine lv_aload_n hx hb dX7_servedShare_20 rfl (lv_at hl 0 rfl) ?_
    refine va_get (D := dC) (ci := 9) (v := .ref (ft_sq ad 0 0)) (C := RX7) (T := TX7) (N := 9) hx hb hts (by decide +kernel) hown hK.1 hP 253 (ft_get' (by decide) rfl) rfl 0 (by decide) (hts (.fieldLink RX7 12 "FoodTruckRota" "square" "LFoodTruckRota$Square;") (by decide +kernel)) (fun _ h9 => h9) rfl dX7_servedShare_21 ?_
    refine va_getN (D := dC) (ci := 6) (v := .int (q 0 5)) (C := RX4) (T := TX4) (N := 12) hx hb hts (by decide +kernel) hown hK.1 (ft_R_S hP (s := 0) (by decide)) 0 (ft_get' (by decide) rfl) rfl 9 (by decide) (ft_nl hK.2 16 rfl) (fun _ h9 => h9) rfl dX7_servedShare_24 ?_
    refine lv_i2f hx hb dX7_servedShare_27 ?_
    refine lv_aload_n hx hb dX7_servedShare_28 rfl (lv_at hl 0 rfl) ?_
    refine va_get (D := dC) (ci := 9) (v := .ref (ft_sq ad 0 0)) (C := RX7) (T := TX7) (N := 9) hx hb hts (by decide +kernel) hown hK.1 hP 253 (ft_get' (by decide) rfl) rfl 0 (by decide) (hts (.fieldLink RX7 12 "FoodTruckRota" "square" "LFoodTruckRota$Square;") (by decide +kernel)) (fun _ h9 => h9) rfl dX7_servedShare_29 ?_
    refine va_getN (D := dC) (ci := 6) (v := .int (q 0 4)) (C := RX4) (T := TX4) (N := 12) hx hb hts (by decide +kernel) hown hK.1 (ft_R_S hP (s := 0) (by decide)) 0 (ft_get' (by decide) rfl) rfl 8 (by decide) (ft_nl hK.2 15 rfl) (fun _ h9 => h9) rfl dX7_servedShare_32 ?_
    refine lv_i2f hx hb dX7_servedShare_35 ?_
    refine lv_fdiv hx hb dX7_servedShare_36 (hna c_7) ?_
    refine vx_ret ?_
    refine W.widen (k := 1) (n := 6) (by decide) (by decide) ?_
    exact W.fret (v := FP.fdiv (FP.i2f (q 0 5)) (FP.i2f (q 0 4))) hx hb hr (fun t ht hW => ⟨⟨FP.fdiv (FP.i2f (q 0 5)) (FP.i2f (q 0 4)), (), rfl, hsp.symm, trivial⟩, ft_Fx hS0 (by rw [ht]; exact Nat.le_refl _) (fun q _ => by rw [ht])⟩) (fun z hz => (hS0.2.2 z hz).elim) dX7_servedShare_37
  · replace hsp := (if_pos c_7).symm.trans hsp
    obtain ⟨sa, hsa⟩ := hE.2.1.2.1 (RX7, 205, "no customer has arrived") (List.mem_of_getElem? (i := 17) rfl)
    exact vx_throwS (text := "no customer has arrived") (names := ["java/lang/RuntimeException", "java/lang/Exception"]) hx hb hl0 hown (by decide +kernel) (by decide +kernel) (hts (.classLink RX7 197 "java/lang/ArithmeticException") (by decide +kernel)) (hts (.initialized "java/lang/ArithmeticException") (by decide +kernel)) hsa (vx_hat (fun w h => hts w (List.mem_cons_of_mem _ (List.mem_append_right _ h))) (by decide +kernel) (ft_xw hE "java/lang/ArithmeticException" (by decide +kernel))) (by decide +kernel) hE.2.2.us hE.2.2.ss (ft_Sm hS0) (hl.1.trans hml.symm) dX7_servedShare_10 dX7_servedShare_13 dX7_servedShare_14 dX7_servedShare_16 dX7_servedShare_19 (fun x hx9 => (hnt x hx9).elim) (Nat.le_of_ble_eq_true rfl) (Nat.le_of_ble_eq_true rfl) (Nat.le_of_ble_eq_true rfl) (Nat.le_of_ble_eq_true rfl) hlocks (fun t _ h1 h2 => ⟨(), trivial, hsp.symm, ft_Fx hS0 h1 h2⟩) (fun z hz => (hS0.2.2 z hz).elim) (by decide) (by decide)
