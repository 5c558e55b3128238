def s_X4_copyFrom_o_L2 (r : Nat → Int32) (r2 : Nat → Int32)  (K : Int32 → (Nat → Int32) → (Nat → Int32)) : Nat → Int32 → (Nat → Int32) → (Nat → Int32)
  | 0, y2_2, r_2 => K y2_2 r_2
  | n + 1, y2_2, r_2 => if 6 ≤ y2_2 then (K y2_2 r_2) else (s_X4_copyFrom_o_L2 r r2 K n (y2_2 + 1) (s_X6_copyFrom r_2 (51 + 17 * (tn y2_2)) r2 (51 + 17 * (tn y2_2))))
def s_X4_copyFrom_o (r : Nat → Int32) (r2 : Nat → Int32)  : (Nat → Int32) := s_X4_copyFrom_o_L2 r r2 (fun y2_2 r_2 => va_up (va_up (va_up (va_up (va_up (va_up (va_up (va_up (ft_cp (ft_cp (ft_cp r_2 (16) r2 (16) 35) (8) r2 (8) 4) (12) r2 (12) 4) 0 (r2 0)) 1 (r2 1)) 2 (r2 2)) 3 (r2 3)) 4 (r2 4)) 5 (r2 5)) 6 (r2 6)) 7 (r2 7)) (tn 6 + 1) 0 r
set_option maxHeartbeats 4000000 in
set_option maxRecDepth 100000 in
theorem c_X4_copyFrom_o (l : Launch) (dC : va_G) (ad : Nat → Nat) (k : Nat → ClassId) (r : Nat → Int32) (ad2 : Nat → Nat) (r2 : Nat → Int32)  : Met l yX4_copyFrom wsX4_copyFrom ({ frames := 2, cells := 0, slots := 0, locals := 81 }) (ft_Pd dC k [.ref (ad 0), .ref (ad2 0)] (ft_WS2 ad k r ad2 r2)) (va_Qv (fun u : Nat → Int32 => u = s_X4_copyFrom_o r r2) (fun (u : Nat → Int32) (t : State) => va_P dC vwCl (ft_WS2 ad k u ad2 r2) t.heap) (ft_A 46 (ft_bl 23 ad ad2))) 0 0 (ft_A 46 (ft_bl 23 ad ad2)) := by
  refine Met.ofW (cc := cX4_copyFrom) (maxL := 3) (ret := none) (by decide) rfl ?_
  intro p e s m args below meth c s₁ B hml hv
  obtain ⟨hargs, hP, hK, hD0⟩ := hv
  subst hargs
  have hx := B.exec
  have hb := B.bytes
  have hr := B.returns
  have hts := atoms_spec (ws := wsX4_copyFrom) B.pre
  have hown : s.vm.findClass RX4 = some m.cls := findClass_of_methodNamed B.named
  have hlocks := B.notSynchronized
  have hD := ft_D_self hD0
  have hS : va_S (ft_A 46 (ft_bl 23 ad ad2)) s.heap s.heap [] := va_S.rf
  have hl := lv_entry ([.ref (ad 0), .ref (ad2 0)]) (n := 3) (Nat.le_of_ble_eq_true rfl)
  rw [lg_entry_eq]
  generalize (lg_sl ([.ref (ad 0), .ref (ad2 0)]) ++ List.replicate (3 - (lg_sl ([.ref (ad 0), .ref (ad2 0)])).length) Slot.unset).toArray = ls at hl ⊢
  have hl : lv_has ls 3 [(0, .ref (ad 0)), (1, .ref (ad2 0))] := hl
  have hsp := (s_X4_copyFrom_o.eq_1 r r2 ).symm
  refine lv_iconst (v := 0) hx hb dX4_copyFrom_0 (by decide) ?_
  refine lv_istore_n (lv' := [(2, .int (0)), (0, .ref (ad 0)), (1, .ref (ad2 0))]) hx hb dX4_copyFrom_1 rfl hl (by decide) rfl (fun ls hl => ?_)
  have loop_2 : ∀ (K : Int32 → (Nat → Int32) → (Nat → Int32)) (hKx : ∀ (y2_2 : Int32) (i_2 : Nat) (hi_2 : y2_2 = nI i_2) (hm_2 : i_2 ≤ tn 6) (r_2 : Nat → Int32) (H : Heap) (locs : List Loc) (hP : va_P dC vwCl (ft_WS2 ad k r_2 ad2 r2) H) (hD : va_D (ft_A 46 (ft_bl 23 ad ad2)) (ft_WS2 ad k r_2 ad2 r2)) (hS : va_S (ft_A 46 (ft_bl 23 ad ad2)) s.heap H locs) (ls : Array Slot) (hl : lv_has ls 3 [(2, .int (y2_2)), (0, .ref (ad 0)), (1, .ref (ad2 0))]) (hsp : K y2_2 r_2 = s_X4_copyFrom_o r r2), W p l e (headSpec wsX4_copyFrom ({ frames := 2, cells := 0, slots := 0, locals := 81 })).room s m ([.ref (ad 0), .ref (ad2 0)] : List Value).toArray below meth c H locs 0 0 (MQ below (va_Qv (fun u : Nat → Int32 => u = s_X4_copyFrom_o r r2) (fun (u : Nat → Int32) (t : State) => va_P dC vwCl (ft_WS2 ad k u ad2 r2) t.heap) (ft_A 46 (ft_bl 23 ad ad2))) ([.ref (ad 0), .ref (ad2 0)] : List Value).toArray s 0 0 (ft_A 46 (ft_bl 23 ad ad2))) (F0 m 29 ls [])) (n_2 : Nat), ∀ (y2_2 : Int32) (i_2 : Nat) (hi_2 : y2_2 = nI i_2) (hm_2 : i_2 ≤ tn 6) (hn_2 : tn 6 < n_2 + i_2) (r_2 : Nat → Int32) (H : Heap) (locs : List Loc) (hP : va_P dC vwCl (ft_WS2 ad k r_2 ad2 r2) H) (hD : va_D (ft_A 46 (ft_bl 23 ad ad2)) (ft_WS2 ad k r_2 ad2 r2)) (hS : va_S (ft_A 46 (ft_bl 23 ad ad2)) s.heap H locs) (ls : Array Slot) (hl : lv_has ls 3 [(2, .int (y2_2)), (0, .ref (ad 0)), (1, .ref (ad2 0))]) (hsp : s_X4_copyFrom_o_L2 r r2 K n_2 y2_2 r_2 = s_X4_copyFrom_o r r2), W p l e (headSpec wsX4_copyFrom ({ frames := 2, cells := 0, slots := 0, locals := 81 })).room s m ([.ref (ad 0), .ref (ad2 0)] : List Value).toArray below meth c H locs 0 0 (MQ below (va_Qv (fun u : Nat → Int32 => u = s_X4_copyFrom_o r r2) (fun (u : Nat → Int32) (t : State) => va_P dC vwCl (ft_WS2 ad k u ad2 r2) t.heap) (ft_A 46 (ft_bl 23 ad ad2))) ([.ref (ad 0), .ref (ad2 0)] : List Value).toArray s 0 0 (ft_A 46 (ft_bl 23 ad ad2))) (F0 m 2 ls []) := by
    intro K hKx n_2
    induction n_2 with
    | zero => intro y2_2 i_2 hi_2 hm_2 hn_2; exact absurd hn_2 (by omega)
    | succ n ih_2 =>
      intro y2_2 i_2 hi_2 hm_2 hn_2 r_2 H locs hP hD hS ls hl hsp
      rw [s_X4_copyFrom_o_L2] at hsp
      refine lv_iload_n hx hb dX4_copyFrom_2 rfl (lv_at hl 0 rfl) ?_
      refine lv_bipush (v := 6) hx hb dX4_copyFrom_3 (by decide) ?_
      refine lv_icmp_ge (tgt := 29) hx hb dX4_copyFrom_5 (by decide) (fun c_5 => ?_) (fun c_5 => ?_)
      · replace hsp := (if_pos c_5).symm.trans hsp
        exact hKx y2_2 i_2 hi_2 hm_2 r_2 _ _ hP hD hS ls (lv_sub hl [0, 1, 2] rfl) hsp
      · replace hsp := (if_neg c_5).symm.trans hsp
        have hlt_2 := ft_step hi_2 hm_2 c_5
        refine lv_aload_n hx hb dX4_copyFrom_8 rfl (lv_at hl 1 rfl) ?_
        refine va_get (D := dC) (ci := 6) (v := .ref (ad 1)) (C := RX4) (T := TX4) (N := 12) hx hb hts (by decide +kernel) hown hK.1 hP 0 (ft_get' (by decide) rfl) rfl 0 (by decide) (hts (.fieldLink RX4 11 "FoodTruckRota$Square" "trucks" "[LFoodTruckRota$Truck;") (by decide +kernel)) (fun _ h9 => h9) rfl dX4_copyFrom_9 ?_
        refine lv_iload_n hx hb dX4_copyFrom_12 rfl (lv_at hl 0 rfl) ?_
        have h_13 : vp_in y2_2 6 := by exact ft_vin hi_2 hlt_2
        refine va_aldq (C := RX6) hx hb hK.1 hP 1 1 (ft_get' (by decide) rfl) rfl h_13 dX4_copyFrom_13 ?_
        refine W.eq (g2 := F0 m 14 ls [.ref (ft_at ad (tn y2_2) 0)]) rfl ?_
        refine lv_aload_n hx hb dX4_copyFrom_14 rfl (lv_at hl 2 rfl) ?_
        refine va_get (D := dC) (ci := 6) (v := .ref (ad2 1)) (C := RX4) (T := TX4) (N := 12) hx hb hts (by decide +kernel) hown hK.1 hP 23 (ft_get' (by decide) rfl) rfl 0 (by decide) (hts (.fieldLink RX4 11 "FoodTruckRota$Square" "trucks" "[LFoodTruckRota$Truck;") (by decide +kernel)) (fun _ h9 => h9) rfl dX4_copyFrom_15 ?_
        refine lv_iload_n hx hb dX4_copyFrom_18 rfl (lv_at hl 0 rfl) ?_
        have h_19 : vp_in y2_2 6 := by exact ft_vin hi_2 hlt_2
        refine va_aldq (C := RX6) hx hb hK.1 hP 24 1 (ft_get' (by decide) rfl) rfl h_19 dX4_copyFrom_19 ?_
        refine W.eq (g2 := F0 m 20 ls [.ref (ft_at ad2 (tn y2_2) 0), .ref (ft_at ad (tn y2_2) 0)]) rfl ?_
        refine va_callv (va_runV (As := [.ref (ft_at ad2 (tn y2_2) 0)]) (rest := []) ⟨hx, hb, hml, hown, hts⟩ (c_X6_copyFrom l dC (ft_at ad (tn y2_2)) k r_2 (51 + 17 * (tn y2_2)) (ft_at ad2 (tn y2_2)) r2 (51 + 17 * (tn y2_2))) (cwV 1 hts gX4_copyFrom_X6_copyFrom rfl rfl rfl (by decide +kernel) ⟨Nat.le_of_ble_eq_true rfl, Nat.le_of_ble_eq_true rfl⟩) (ft_preVd hK (ft_S2_P hP (ft_tn h_13)) (ft_S2_D hD (ft_tn h_13)) (ci := 8) rfl (ft_get' (by decide) rfl)) rfl rfl hl.1 rfl (lv_room (Nat.le_of_ble_eq_true rfl)) dX4_copyFrom_20 ⟨Nat.le_of_ble_eq_true rfl, Nat.le_of_ble_eq_true rfl⟩) hS (fun q _ h => ft_S2_A hD (ft_tn h_13) q h) (fun q h => ft_S2_A hD (ft_tn h_13) q h) (fun u t H1 locs ht hvm hw hB hz1 hk1 hS => ?_)
        subst hw
        rw [ht] at hB
        have hP : va_P dC vwCl (ft_WS2 ad k (s_X6_copyFrom r_2 (51 + 17 * (tn y2_2)) r2 (51 + 17 * (tn y2_2))) ad2 r2) H1 := ft_S2_join hP hD (ft_tn h_13) hk1 hB (o_X6_copyFrom _ _ _ _)
        have hD : va_D (ft_A 46 (ft_bl 23 ad ad2)) (ft_WS2 ad k (s_X6_copyFrom r_2 (51 + 17 * (tn y2_2)) r2 (51 + 17 * (tn y2_2))) ad2 r2) := ft_D_va hD _
        generalize H1 = H at hP hS ⊢
        refine lv_iinc (v := y2_2 + 1) (lv' := [(2, .int (y2_2 + 1)), (0, .ref (ad 0)), (1, .ref (ad2 0))]) hx hb dX4_copyFrom_23 hl (k := 0) rfl rfl (by decide) rfl (fun ls hl => ?_)
        refine lv_goto (tgt := 2) hx hb dX4_copyFrom_26 (by decide) ?_
        exact ih_2 (y2_2 + 1) (i_2 + 1) (by rw [hi_2, nI_1]) hlt_2 (by omega) (s_X6_copyFrom r_2 (51 + 17 * (tn y2_2)) r2 (51 + 17 * (tn y2_2))) _ _ hP hD hS ls (lv_sub hl [0, 1, 2] rfl) hsp
  refine loop_2 _ (fun y2_2 i_2 hi_2 hm_2 r_2 H locs hP hD hS ls hl hsp => ?_) (tn 6 + 1) 0 0 rfl (by omega) (by omega) r _ _ hP hD hS ls (lv_sub hl [0, 1, 2] rfl) hsp
  refine lv_aload_n hx hb dX4_copyFrom_29 rfl (lv_at hl 2 rfl) ?_
  refine va_get (D := dC) (ci := 6) (v := .ref (ad2 2)) (C := RX4) (T := TX4) (N := 12) hx hb hts (by decide +kernel) hown hK.1 hP 23 (ft_get' (by decide) rfl) rfl 1 (by decide) (hts (.fieldLink RX4 17 "FoodTruckRota$Square" "holders" "[I") (by decide +kernel)) (fun _ h9 => h9) rfl dX4_copyFrom_30 ?_
  refine lv_iconst (v := 0) hx hb dX4_copyFrom_33 (by decide) ?_
  refine lv_aload_n hx hb dX4_copyFrom_34 rfl (lv_at hl 1 rfl) ?_
  refine va_get (D := dC) (ci := 6) (v := .ref (ad 2)) (C := RX4) (T := TX4) (N := 12) hx hb hts (by decide +kernel) hown hK.1 hP 0 (ft_get' (by decide) rfl) rfl 1 (by decide) (hts (.fieldLink RX4 17 "FoodTruckRota$Square" "holders" "[I") (by decide +kernel)) (fun _ h9 => h9) rfl dX4_copyFrom_35 ?_
  refine lv_iconst (v := 0) hx hb dX4_copyFrom_38 (by decide) ?_
  refine lv_bipush (v := 35) hx hb dX4_copyFrom_39 (by decide) ?_
  refine va_copyi hx hb (hml.trans hl.1.symm) hown (hts (.methodLink RX4 42 arraycopyName) (by decide +kernel)) (hts (.native arraycopyName) (by decide +kernel)) (hts (.static arraycopyName) (by decide +kernel)) (hts (.initialized "java/lang/System") (by decide +kernel)) hK.1 hP hD hS 25 2 0 0 (ft_get' (by decide) rfl) (ft_get' (by decide) rfl) rfl rfl rfl (by decide) (by decide) (by decide) (by decide) (by decide) (fun _ _ => rfl) (Nat.le_of_ble_eq_true rfl) (Nat.le_of_ble_eq_true rfl) dX4_copyFrom_41 (fun H locs hP hD hS => ?_)
  have hP := ft_cast hP (ft_bl_set (n := 23) (m := 23) (ad2 := ad2) (vb := ft_S ad2 k r2) (by decide) (ft_S_ch (ad := ad) (k := k) (r := r_2) (r2 := r2)))
  have hD := ft_castD hD (ft_bl_set (n := 23) (m := 23) (ad2 := ad2) (vb := ft_S ad2 k r2) (by decide) (ft_S_ch (ad := ad) (k := k) (r := r_2) (r2 := r2)))
  have hP : va_P dC vwCl (ft_WS2 ad k (ft_cp r_2 (16) r2 (16) 35) ad2 r2) H := hP
  have hD : va_D (ft_A 46 (ft_bl 23 ad ad2)) (ft_WS2 ad k (ft_cp r_2 (16) r2 (16) 35) ad2 r2) := hD
  refine lv_aload_n hx hb dX4_copyFrom_44 rfl (lv_at hl 2 rfl) ?_
  refine va_get (D := dC) (ci := 6) (v := .ref (ad2 3)) (C := RX4) (T := TX4) (N := 12) hx hb hts (by decide +kernel) hown hK.1 hP 23 (ft_get' (by decide) rfl) rfl 2 (by decide) (hts (.fieldLink RX4 21 "FoodTruckRota$Square" "prices" "[I") (by decide +kernel)) (fun _ h9 => h9) rfl dX4_copyFrom_45 ?_
  refine lv_iconst (v := 0) hx hb dX4_copyFrom_48 (by decide) ?_
  refine lv_aload_n hx hb dX4_copyFrom_49 rfl (lv_at hl 1 rfl) ?_
  refine va_get (D := dC) (ci := 6) (v := .ref (ad 3)) (C := RX4) (T := TX4) (N := 12) hx hb hts (by decide +kernel) hown hK.1 hP 0 (ft_get' (by decide) rfl) rfl 2 (by decide) (hts (.fieldLink RX4 21 "FoodTruckRota$Square" "prices" "[I") (by decide +kernel)) (fun _ h9 => h9) rfl dX4_copyFrom_50 ?_
  refine lv_iconst (v := 0) hx hb dX4_copyFrom_53 (by decide) ?_
  refine lv_iconst (v := 4) hx hb dX4_copyFrom_54 (by decide) ?_
  refine va_copyi hx hb (hml.trans hl.1.symm) hown (hts (.methodLink RX4 42 arraycopyName) (by decide +kernel)) (hts (.native arraycopyName) (by decide +kernel)) (hts (.static arraycopyName) (by decide +kernel)) (hts (.initialized "java/lang/System") (by decide +kernel)) hK.1 hP hD hS 26 3 0 0 (ft_get' (by decide) rfl) (ft_get' (by decide) rfl) rfl rfl rfl (by decide) (by decide) (by decide) (by decide) (by decide) (fun _ _ => rfl) (Nat.le_of_ble_eq_true rfl) (Nat.le_of_ble_eq_true rfl) dX4_copyFrom_55 (fun H locs hP hD hS => ?_)
  have hP := ft_cast hP (ft_bl_set (n := 23) (m := 23) (ad2 := ad2) (vb := ft_S ad2 k r2) (by decide) (ft_S_cq (ad := ad) (k := k) (r := (ft_cp r_2 (16) r2 (16) 35)) (r2 := r2)))
  have hD := ft_castD hD (ft_bl_set (n := 23) (m := 23) (ad2 := ad2) (vb := ft_S ad2 k r2) (by decide) (ft_S_cq (ad := ad) (k := k) (r := (ft_cp r_2 (16) r2 (16) 35)) (r2 := r2)))
  have hP : va_P dC vwCl (ft_WS2 ad k (ft_cp (ft_cp r_2 (16) r2 (16) 35) (8) r2 (8) 4) ad2 r2) H := hP
  have hD : va_D (ft_A 46 (ft_bl 23 ad ad2)) (ft_WS2 ad k (ft_cp (ft_cp r_2 (16) r2 (16) 35) (8) r2 (8) 4) ad2 r2) := hD
  refine lv_aload_n hx hb dX4_copyFrom_58 rfl (lv_at hl 2 rfl) ?_
  refine va_get (D := dC) (ci := 6) (v := .ref (ad2 4)) (C := RX4) (T := TX4) (N := 12) hx hb hts (by decide +kernel) hown hK.1 hP 23 (ft_get' (by decide) rfl) rfl 3 (by decide) (hts (.fieldLink RX4 24 "FoodTruckRota$Square" "sold" "[I") (by decide +kernel)) (fun _ h9 => h9) rfl dX4_copyFrom_59 ?_
  refine lv_iconst (v := 0) hx hb dX4_copyFrom_62 (by decide) ?_
  refine lv_aload_n hx hb dX4_copyFrom_63 rfl (lv_at hl 1 rfl) ?_
  refine va_get (D := dC) (ci := 6) (v := .ref (ad 4)) (C := RX4) (T := TX4) (N := 12) hx hb hts (by decide +kernel) hown hK.1 hP 0 (ft_get' (by decide) rfl) rfl 3 (by decide) (hts (.fieldLink RX4 24 "FoodTruckRota$Square" "sold" "[I") (by decide +kernel)) (fun _ h9 => h9) rfl dX4_copyFrom_64 ?_
  refine lv_iconst (v := 0) hx hb dX4_copyFrom_67 (by decide) ?_
  refine lv_iconst (v := 4) hx hb dX4_copyFrom_68 (by decide) ?_
  refine va_copyi hx hb (hml.trans hl.1.symm) hown (hts (.methodLink RX4 42 arraycopyName) (by decide +kernel)) (hts (.native arraycopyName) (by decide +kernel)) (hts (.static arraycopyName) (by decide +kernel)) (hts (.initialized "java/lang/System") (by decide +kernel)) hK.1 hP hD hS 27 4 0 0 (ft_get' (by decide) rfl) (ft_get' (by decide) rfl) rfl rfl rfl (by decide) (by decide) (by decide) (by decide) (by decide) (fun _ _ => rfl) (Nat.le_of_ble_eq_true rfl) (Nat.le_of_ble_eq_true rfl) dX4_copyFrom_69 (fun H locs hP hD hS => ?_)
  have hP := ft_cast hP (ft_bl_set (n := 23) (m := 23) (ad2 := ad2) (vb := ft_S ad2 k r2) (by decide) (ft_S_cs (ad := ad) (k := k) (r := (ft_cp (ft_cp r_2 (16) r2 (16) 35) (8) r2 (8) 4)) (r2 := r2)))
  have hD := ft_castD hD (ft_bl_set (n := 23) (m := 23) (ad2 := ad2) (vb := ft_S ad2 k r2) (by decide) (ft_S_cs (ad := ad) (k := k) (r := (ft_cp (ft_cp r_2 (16) r2 (16) 35) (8) r2 (8) 4)) (r2 := r2)))
  have hP : va_P dC vwCl (ft_WS2 ad k (ft_cp (ft_cp (ft_cp r_2 (16) r2 (16) 35) (8) r2 (8) 4) (12) r2 (12) 4) ad2 r2) H := hP
  have hD : va_D (ft_A 46 (ft_bl 23 ad ad2)) (ft_WS2 ad k (ft_cp (ft_cp (ft_cp r_2 (16) r2 (16) 35) (8) r2 (8) 4) (12) r2 (12) 4) ad2 r2) := hD
  refine lv_aload_n hx hb dX4_copyFrom_72 rfl (lv_at hl 1 rfl) ?_
  refine lv_aload_n hx hb dX4_copyFrom_73 rfl (lv_at hl 2 rfl) ?_
  refine va_get (D := dC) (ci := 6) (v := .int (r2 0)) (C := RX4) (T := TX4) (N := 12) hx hb hts (by decide +kernel) hown hK.1 hP 23 (ft_get' (by decide) rfl) rfl 4 (by decide) (hts (.fieldLink RX4 48 "FoodTruckRota$Square" "truckTotal" "I") (by decide +kernel)) (fun _ h9 => h9) rfl dX4_copyFrom_74 ?_
  refine va_put (D := dC) (ci := 6) (v := .int (r2 0)) (ty := .int) (C := RX4) (T := TX4) (N := 12) hx hb hts (by decide +kernel) tyX4 tyX4_ok nmX4 hown hK.1 hP hD hS 0 (ft_get' (by decide) rfl) rfl 4 (by decide) (hts (.fieldLink RX4 48 "FoodTruckRota$Square" "truckTotal" "I") (by decide +kernel)) (fun _ h9 => h9) rfl (by decide +kernel) rfl rfl (Nat.le_of_ble_eq_true rfl) dX4_copyFrom_77 (fun H locs hP hD hS => ?_)
  have hP := ft_cast hP (ft_bl_set (n := 23) (m := 23) (ad2 := ad2) (vb := ft_S ad2 k r2) (by decide) ft_S_p0)
  have hD := ft_castD hD (ft_bl_set (n := 23) (m := 23) (ad2 := ad2) (vb := ft_S ad2 k r2) (by decide) ft_S_p0)
  have hP : va_P dC vwCl (ft_WS2 ad k (va_up (ft_cp (ft_cp (ft_cp r_2 (16) r2 (16) 35) (8) r2 (8) 4) (12) r2 (12) 4) 0 (r2 0)) ad2 r2) H := hP
  have hD : va_D (ft_A 46 (ft_bl 23 ad ad2)) (ft_WS2 ad k (va_up (ft_cp (ft_cp (ft_cp r_2 (16) r2 (16) 35) (8) r2 (8) 4) (12) r2 (12) 4) 0 (r2 0)) ad2 r2) := hD
  refine lv_aload_n hx hb dX4_copyFrom_80 rfl (lv_at hl 1 rfl) ?_
  refine lv_aload_n hx hb dX4_copyFrom_81 rfl (lv_at hl 2 rfl) ?_
  refine va_get (D := dC) (ci := 6) (v := .int (r2 1)) (C := RX4) (T := TX4) (N := 12) hx hb hts (by decide +kernel) hown hK.1 hP 23 (ft_get' (by decide) rfl) rfl 5 (by decide) (hts (.fieldLink RX4 51 "FoodTruckRota$Square" "dayCounter" "I") (by decide +kernel)) (fun _ h9 => h9) rfl dX4_copyFrom_82 ?_
  refine va_put (D := dC) (ci := 6) (v := .int (r2 1)) (ty := .int) (C := RX4) (T := TX4) (N := 12) hx hb hts (by decide +kernel) tyX4 tyX4_ok nmX4 hown hK.1 hP hD hS 0 (ft_get' (by decide) rfl) rfl 5 (by decide) (hts (.fieldLink RX4 51 "FoodTruckRota$Square" "dayCounter" "I") (by decide +kernel)) (fun _ h9 => h9) rfl (by decide +kernel) rfl rfl (Nat.le_of_ble_eq_true rfl) dX4_copyFrom_85 (fun H locs hP hD hS => ?_)
  have hP := ft_cast hP (ft_bl_set (n := 23) (m := 23) (ad2 := ad2) (vb := ft_S ad2 k r2) (by decide) ft_S_p1)
  have hD := ft_castD hD (ft_bl_set (n := 23) (m := 23) (ad2 := ad2) (vb := ft_S ad2 k r2) (by decide) ft_S_p1)
  have hP : va_P dC vwCl (ft_WS2 ad k (va_up (va_up (ft_cp (ft_cp (ft_cp r_2 (16) r2 (16) 35) (8) r2 (8) 4) (12) r2 (12) 4) 0 (r2 0)) 1 (r2 1)) ad2 r2) H := hP
  have hD : va_D (ft_A 46 (ft_bl 23 ad ad2)) (ft_WS2 ad k (va_up (va_up (ft_cp (ft_cp (ft_cp r_2 (16) r2 (16) 35) (8) r2 (8) 4) (12) r2 (12) 4) 0 (r2 0)) 1 (r2 1)) ad2 r2) := hD
  refine lv_aload_n hx hb dX4_copyFrom_88 rfl (lv_at hl 1 rfl) ?_
  refine lv_aload_n hx hb dX4_copyFrom_89 rfl (lv_at hl 2 rfl) ?_
  refine va_get (D := dC) (ci := 6) (v := .int (r2 2)) (C := RX4) (T := TX4) (N := 12) hx hb hts (by decide +kernel) hown hK.1 hP 23 (ft_get' (by decide) rfl) rfl 6 (by decide) (hts (.fieldLink RX4 54 "FoodTruckRota$Square" "minuteCounter" "I") (by decide +kernel)) (fun _ h9 => h9) rfl dX4_copyFrom_90 ?_
  refine va_put (D := dC) (ci := 6) (v := .int (r2 2)) (ty := .int) (C := RX4) (T := TX4) (N := 12) hx hb hts (by decide +kernel) tyX4 tyX4_ok nmX4 hown hK.1 hP hD hS 0 (ft_get' (by decide) rfl) rfl 6 (by decide) (hts (.fieldLink RX4 54 "FoodTruckRota$Square" "minuteCounter" "I") (by decide +kernel)) (fun _ h9 => h9) rfl (by decide +kernel) rfl rfl (Nat.le_of_ble_eq_true rfl) dX4_copyFrom_93 (fun H locs hP hD hS => ?_)
  have hP := ft_cast hP (ft_bl_set (n := 23) (m := 23) (ad2 := ad2) (vb := ft_S ad2 k r2) (by decide) ft_S_p2)
  have hD := ft_castD hD (ft_bl_set (n := 23) (m := 23) (ad2 := ad2) (vb := ft_S ad2 k r2) (by decide) ft_S_p2)
  have hP : va_P dC vwCl (ft_WS2 ad k (va_up (va_up (va_up (ft_cp (ft_cp (ft_cp r_2 (16) r2 (16) 35) (8) r2 (8) 4) (12) r2 (12) 4) 0 (r2 0)) 1 (r2 1)) 2 (r2 2)) ad2 r2) H := hP
  have hD : va_D (ft_A 46 (ft_bl 23 ad ad2)) (ft_WS2 ad k (va_up (va_up (va_up (ft_cp (ft_cp (ft_cp r_2 (16) r2 (16) 35) (8) r2 (8) 4) (12) r2 (12) 4) 0 (r2 0)) 1 (r2 1)) 2 (r2 2)) ad2 r2) := hD
  refine lv_aload_n hx hb dX4_copyFrom_96 rfl (lv_at hl 1 rfl) ?_
  refine lv_aload_n hx hb dX4_copyFrom_97 rfl (lv_at hl 2 rfl) ?_
  refine va_get (D := dC) (ci := 6) (v := .int (r2 3)) (C := RX4) (T := TX4) (N := 12) hx hb hts (by decide +kernel) hown hK.1 hP 23 (ft_get' (by decide) rfl) rfl 7 (by decide) (hts (.fieldLink RX4 27 "FoodTruckRota$Square" "customersPerMinute" "I") (by decide +kernel)) (fun _ h9 => h9) rfl dX4_copyFrom_98 ?_
  refine va_put (D := dC) (ci := 6) (v := .int (r2 3)) (ty := .int) (C := RX4) (T := TX4) (N := 12) hx hb hts (by decide +kernel) tyX4 tyX4_ok nmX4 hown hK.1 hP hD hS 0 (ft_get' (by decide) rfl) rfl 7 (by decide) (hts (.fieldLink RX4 27 "FoodTruckRota$Square" "customersPerMinute" "I") (by decide +kernel)) (fun _ h9 => h9) rfl (by decide +kernel) rfl rfl (Nat.le_of_ble_eq_true rfl) dX4_copyFrom_101 (fun H locs hP hD hS => ?_)
  have hP := ft_cast hP (ft_bl_set (n := 23) (m := 23) (ad2 := ad2) (vb := ft_S ad2 k r2) (by decide) ft_S_p3)
  have hD := ft_castD hD (ft_bl_set (n := 23) (m := 23) (ad2 := ad2) (vb := ft_S ad2 k r2) (by decide) ft_S_p3)
  have hP : va_P dC vwCl (ft_WS2 ad k (va_up (va_up (va_up (va_up (ft_cp (ft_cp (ft_cp r_2 (16) r2 (16) 35) (8) r2 (8) 4) (12) r2 (12) 4) 0 (r2 0)) 1 (r2 1)) 2 (r2 2)) 3 (r2 3)) ad2 r2) H := hP
  have hD : va_D (ft_A 46 (ft_bl 23 ad ad2)) (ft_WS2 ad k (va_up (va_up (va_up (va_up (ft_cp (ft_cp (ft_cp r_2 (16) r2 (16) 35) (8) r2 (8) 4) (12) r2 (12) 4) 0 (r2 0)) 1 (r2 1)) 2 (r2 2)) 3 (r2 3)) ad2 r2) := hD
  refine lv_aload_n hx hb dX4_copyFrom_104 rfl (lv_at hl 1 rfl) ?_
  refine lv_aload_n hx hb dX4_copyFrom_105 rfl (lv_at hl 2 rfl) ?_
  refine va_get (D := dC) (ci := 6) (v := .int (r2 4)) (C := RX4) (T := TX4) (N := 12) hx hb hts (by decide +kernel) hown hK.1 hP 23 (ft_get' (by decide) rfl) rfl 8 (by decide) (hts (.fieldLink RX4 57 "FoodTruckRota$Square" "arrived" "I") (by decide +kernel)) (fun _ h9 => h9) rfl dX4_copyFrom_106 ?_
  refine va_put (D := dC) (ci := 6) (v := .int (r2 4)) (ty := .int) (C := RX4) (T := TX4) (N := 12) hx hb hts (by decide +kernel) tyX4 tyX4_ok nmX4 hown hK.1 hP hD hS 0 (ft_get' (by decide) rfl) rfl 8 (by decide) (hts (.fieldLink RX4 57 "FoodTruckRota$Square" "arrived" "I") (by decide +kernel)) (fun _ h9 => h9) rfl (by decide +kernel) rfl rfl (Nat.le_of_ble_eq_true rfl) dX4_copyFrom_109 (fun H locs hP hD hS => ?_)
  have hP := ft_cast hP (ft_bl_set (n := 23) (m := 23) (ad2 := ad2) (vb := ft_S ad2 k r2) (by decide) ft_S_p4)
  have hD := ft_castD hD (ft_bl_set (n := 23) (m := 23) (ad2 := ad2) (vb := ft_S ad2 k r2) (by decide) ft_S_p4)
  have hP : va_P dC vwCl (ft_WS2 ad k (va_up (va_up (va_up (va_up (va_up (ft_cp (ft_cp (ft_cp r_2 (16) r2 (16) 35) (8) r2 (8) 4) (12) r2 (12) 4) 0 (r2 0)) 1 (r2 1)) 2 (r2 2)) 3 (r2 3)) 4 (r2 4)) ad2 r2) H := hP
  have hD : va_D (ft_A 46 (ft_bl 23 ad ad2)) (ft_WS2 ad k (va_up (va_up (va_up (va_up (va_up (ft_cp (ft_cp (ft_cp r_2 (16) r2 (16) 35) (8) r2 (8) 4) (12) r2 (12) 4) 0 (r2 0)) 1 (r2 1)) 2 (r2 2)) 3 (r2 3)) 4 (r2 4)) ad2 r2) := hD
  refine lv_aload_n hx hb dX4_copyFrom_112 rfl (lv_at hl 1 rfl) ?_
  refine lv_aload_n hx hb dX4_copyFrom_113 rfl (lv_at hl 2 rfl) ?_
  refine va_get (D := dC) (ci := 6) (v := .int (r2 5)) (C := RX4) (T := TX4) (N := 12) hx hb hts (by decide +kernel) hown hK.1 hP 23 (ft_get' (by decide) rfl) rfl 9 (by decide) (hts (.fieldLink RX4 60 "FoodTruckRota$Square" "served" "I") (by decide +kernel)) (fun _ h9 => h9) rfl dX4_copyFrom_114 ?_
  refine va_put (D := dC) (ci := 6) (v := .int (r2 5)) (ty := .int) (C := RX4) (T := TX4) (N := 12) hx hb hts (by decide +kernel) tyX4 tyX4_ok nmX4 hown hK.1 hP hD hS 0 (ft_get' (by decide) rfl) rfl 9 (by decide) (hts (.fieldLink RX4 60 "FoodTruckRota$Square" "served" "I") (by decide +kernel)) (fun _ h9 => h9) rfl (by decide +kernel) rfl rfl (Nat.le_of_ble_eq_true rfl) dX4_copyFrom_117 (fun H locs hP hD hS => ?_)
  have hP := ft_cast hP (ft_bl_set (n := 23) (m := 23) (ad2 := ad2) (vb := ft_S ad2 k r2) (by decide) ft_S_p5)
  have hD := ft_castD hD (ft_bl_set (n := 23) (m := 23) (ad2 := ad2) (vb := ft_S ad2 k r2) (by decide) ft_S_p5)
  have hP : va_P dC vwCl (ft_WS2 ad k (va_up (va_up (va_up (va_up (va_up (va_up (ft_cp (ft_cp (ft_cp r_2 (16) r2 (16) 35) (8) r2 (8) 4) (12) r2 (12) 4) 0 (r2 0)) 1 (r2 1)) 2 (r2 2)) 3 (r2 3)) 4 (r2 4)) 5 (r2 5)) ad2 r2) H := hP
  have hD : va_D (ft_A 46 (ft_bl 23 ad ad2)) (ft_WS2 ad k (va_up (va_up (va_up (va_up (va_up (va_up (ft_cp (ft_cp (ft_cp r_2 (16) r2 (16) 35) (8) r2 (8) 4) (12) r2 (12) 4) 0 (r2 0)) 1 (r2 1)) 2 (r2 2)) 3 (r2 3)) 4 (r2 4)) 5 (r2 5)) ad2 r2) := hD
  refine lv_aload_n hx hb dX4_copyFrom_120 rfl (lv_at hl 1 rfl) ?_
  refine lv_aload_n hx hb dX4_copyFrom_121 rfl (lv_at hl 2 rfl) ?_
  refine va_get (D := dC) (ci := 6) (v := .int (r2 6)) (C := RX4) (T := TX4) (N := 12) hx hb hts (by decide +kernel) hown hK.1 hP 23 (ft_get' (by decide) rfl) rfl 10 (by decide) (hts (.fieldLink RX4 63 "FoodTruckRota$Square" "disappointed" "I") (by decide +kernel)) (fun _ h9 => h9) rfl dX4_copyFrom_122 ?_
  refine va_put (D := dC) (ci := 6) (v := .int (r2 6)) (ty := .int) (C := RX4) (T := TX4) (N := 12) hx hb hts (by decide +kernel) tyX4 tyX4_ok nmX4 hown hK.1 hP hD hS 0 (ft_get' (by decide) rfl) rfl 10 (by decide) (hts (.fieldLink RX4 63 "FoodTruckRota$Square" "disappointed" "I") (by decide +kernel)) (fun _ h9 => h9) rfl (by decide +kernel) rfl rfl (Nat.le_of_ble_eq_true rfl) dX4_copyFrom_125 (fun H locs hP hD hS => ?_)
  have hP := ft_cast hP (ft_bl_set (n := 23) (m := 23) (ad2 := ad2) (vb := ft_S ad2 k r2) (by decide) ft_S_p6)
  have hD := ft_castD hD (ft_bl_set (n := 23) (m := 23) (ad2 := ad2) (vb := ft_S ad2 k r2) (by decide) ft_S_p6)
  have hP : va_P dC vwCl (ft_WS2 ad k (va_up (va_up (va_up (va_up (va_up (va_up (va_up (ft_cp (ft_cp (ft_cp r_2 (16) r2 (16) 35) (8) r2 (8) 4) (12) r2 (12) 4) 0 (r2 0)) 1 (r2 1)) 2 (r2 2)) 3 (r2 3)) 4 (r2 4)) 5 (r2 5)) 6 (r2 6)) ad2 r2) H := hP
  have hD : va_D (ft_A 46 (ft_bl 23 ad ad2)) (ft_WS2 ad k (va_up (va_up (va_up (va_up (va_up (va_up (va_up (ft_cp (ft_cp (ft_cp r_2 (16) r2 (16) 35) (8) r2 (8) 4) (12) r2 (12) 4) 0 (r2 0)) 1 (r2 1)) 2 (r2 2)) 3 (r2 3)) 4 (r2 4)) 5 (r2 5)) 6 (r2 6)) ad2 r2) := hD
  refine lv_aload_n hx hb dX4_copyFrom_128 rfl (lv_at hl 1 rfl) ?_
  refine lv_aload_n hx hb dX4_copyFrom_129 rfl (lv_at hl 2 rfl) ?_
  refine va_get (D := dC) (ci := 6) (v := .int (r2 7)) (C := RX4) (T := TX4) (N := 12) hx hb hts (by decide +kernel) hown hK.1 hP 23 (ft_get' (by decide) rfl) rfl 11 (by decide) (hts (.fieldLink RX4 66 "FoodTruckRota$Square" "lost" "I") (by decide +kernel)) (fun _ h9 => h9) rfl dX4_copyFrom_130 ?_
  refine va_put (D := dC) (ci := 6) (v := .int (r2 7)) (ty := .int) (C := RX4) (T := TX4) (N := 12) hx hb hts (by decide +kernel) tyX4 tyX4_ok nmX4 hown hK.1 hP hD hS 0 (ft_get' (by decide) rfl) rfl 11 (by decide) (hts (.fieldLink RX4 66 "FoodTruckRota$Square" "lost" "I") (by decide +kernel)) (fun _ h9 => h9) rfl (by decide +kernel) rfl rfl (Nat.le_of_ble_eq_true rfl) dX4_copyFrom_133 (fun H locs hP hD hS => ?_)
  have hP := ft_cast hP (ft_bl_set (n := 23) (m := 23) (ad2 := ad2) (vb := ft_S ad2 k r2) (by decide) ft_S_p7)
  have hD := ft_castD hD (ft_bl_set (n := 23) (m := 23) (ad2 := ad2) (vb := ft_S ad2 k r2) (by decide) ft_S_p7)
  have hP : va_P dC vwCl (ft_WS2 ad k (va_up (va_up (va_up (va_up (va_up (va_up (va_up (va_up (ft_cp (ft_cp (ft_cp r_2 (16) r2 (16) 35) (8) r2 (8) 4) (12) r2 (12) 4) 0 (r2 0)) 1 (r2 1)) 2 (r2 2)) 3 (r2 3)) 4 (r2 4)) 5 (r2 5)) 6 (r2 6)) 7 (r2 7)) ad2 r2) H := hP
  have hD : va_D (ft_A 46 (ft_bl 23 ad ad2)) (ft_WS2 ad k (va_up (va_up (va_up (va_up (va_up (va_up (va_up (va_up (ft_cp (ft_cp (ft_cp r_2 (16) r2 (16) 35) (8) r2 (8) 4) (12) r2 (12) 4) 0 (r2 0)) 1 (r2 1)) 2 (r2 2)) 3 (r2 3)) 4 (r2 4)) 5 (r2 5)) 6 (r2 6)) 7 (r2 7)) ad2 r2) := hD
  exact W.vret hx hb hr (fun t ht hW => ⟨⟨(va_up (va_up (va_up (va_up (va_up (va_up (va_up (va_up (ft_cp (ft_cp (ft_cp r_2 (16) r2 (16) 35) (8) r2 (8) 4) (12) r2 (12) 4) 0 (r2 0)) 1 (r2 1)) 2 (r2 2)) 3 (r2 3)) 4 (r2 4)) 5 (r2 5)) 6 (r2 6)) 7 (r2 7)), rfl, hsp, ft_heap ht hP⟩, hS.F ht⟩) hS.2.2 dX4_copyFrom_136

def s_X4_copyFrom (_r : Nat → Int32) (r2 : Nat → Int32) : Nat → Int32 := r2
theorem ft_X6cp {r r2 : Nat → Int32} {b j : Nat} : s_X6_copyFrom r b r2 b j = if b ≤ j ∧ j < b + 17 then r2 j else r j := by
  unfold s_X6_copyFrom
  simp only [va_up, ft_cp]
  repeat' split
  all_goals first
    | rfl
    | exact congrArg r2 (by omega)
    | (exfalso; omega)
theorem ft_X4cpK {rr r2 : Nat → Int32} (h : ∀ j, 51 ≤ j → j < 51 + 17 * 6 → rr j = r2 j) : ∀ j, j < 153 → (va_up (va_up (va_up (va_up (va_up (va_up (va_up (va_up (ft_cp (ft_cp (ft_cp rr (16) r2 (16) 35) (8) r2 (8) 4) (12) r2 (12) 4) 0 (r2 0)) 1 (r2 1)) 2 (r2 2)) 3 (r2 3)) 4 (r2 4)) 5 (r2 5)) 6 (r2 6)) 7 (r2 7)) j = r2 j := by
  intro j hj
  simp only [va_up, ft_cp]
  repeat' split
  all_goals first
    | exact congrArg r2 (by omega)
    | exact h j (by omega) (by omega)
    | (exfalso; omega)
theorem ft_X4cpL (r r2 : Nat → Int32) : ∀ (n i : Nat) (rr : Nat → Int32), i ≤ 6 → 6 < n + i → (∀ j, 51 ≤ j → j < 51 + 17 * i → rr j = r2 j) → ∀ j, j < 153 → s_X4_copyFrom_o_L2 r r2 (fun y2_2 r_2 => va_up (va_up (va_up (va_up (va_up (va_up (va_up (va_up (ft_cp (ft_cp (ft_cp r_2 (16) r2 (16) 35) (8) r2 (8) 4) (12) r2 (12) 4) 0 (r2 0)) 1 (r2 1)) 2 (r2 2)) 3 (r2 3)) 4 (r2 4)) 5 (r2 5)) 6 (r2 6)) 7 (r2 7)) n (nI i) rr j = r2 j := by
  intro n
  induction n with
  | zero => intro i rr h1 h2; omega
  | succ n ih =>
    intro i rr h1 h2 h3
    rw [s_X4_copyFrom_o_L2]
    by_cases h : i = 6
    · subst h
      rw [if_pos (by decide)]
      exact ft_X4cpK h3
    · rw [if_neg (show ¬ (6 : Int32) ≤ nI i from fun h9 => absurd ((nI_leI (a := 6) (b := i) (by decide) (by omega)).mp h9) (by omega)), nI_1]
      refine ih (i + 1) _ (by omega) (by omega) (fun j h4 h5 => ?_)
      rw [show tn (nI i) = i from nI_clamp (by omega), ft_X6cp]
      by_cases h6 : 51 + 17 * i ≤ j ∧ j < 51 + 17 * i + 17
      · rw [if_pos h6]
      · rw [if_neg h6]; exact h3 j h4 (by omega)
theorem ft_X4cp (r r2 : Nat → Int32) : ∀ j, j < 153 → s_X4_copyFrom_o r r2 j = r2 j := ft_X4cpL r r2 _ 0 _ (by decide) (by decide) (fun j h1 h2 => by omega)
theorem ft_S_congr {ad : Nat → Nat} {k : Nat → ClassId} {r r' : Nat → Int32} (h : ∀ j, j < 153 → r j = r' j) {x : Nat} (hx : x < 23) : ft_S ad k r x = ft_S ad k r' x := by
  match x, hx with
  | 0, _ => simp only [ft_S, h 0 (by decide), h 1 (by decide), h 2 (by decide), h 3 (by decide), h 4 (by decide), h 5 (by decide), h 6 (by decide), h 7 (by decide)]
  | 1, _ => rfl
  | 2, _ => simp only [ft_S]; rw [ft_ar_congr (fun j hj => h (16 + j) (by omega))]
  | 3, _ => simp only [ft_S]; rw [ft_ar_congr (fun j hj => h (8 + j) (by omega))]
  | 4, _ => simp only [ft_S]; rw [ft_ar_congr (fun j hj => h (12 + j) (by omega))]
  | j + 5, hx => exact ft_T_congr (fun y hy => h _ (by omega)) _
theorem ft_S2_congr {ad ad2 : Nat → Nat} {k : Nat → ClassId} {r r' r2 : Nat → Int32} (h : ∀ j, j < 153 → r j = r' j) : ft_WS2 ad k r ad2 r2 = ft_WS2 ad k r' ad2 r2 := by
  apply List.ext_getElem?
  intro x
  by_cases hx : x < 46
  · rw [ft_get hx, ft_get hx]
    by_cases h2 : x < 23
    · exact congrArg (fun e => some (_, e)) (by rw [ft_bl_lo h2, ft_bl_lo h2, ft_S_congr h h2])
    · obtain ⟨y, rfl⟩ : ∃ y, x = 23 + y := ⟨x - 23, by omega⟩
      exact congrArg (fun e => some (_, e)) (by rw [ft_bl_hi, ft_bl_hi])
  · rw [List.getElem?_eq_none (by rw [ft_len]; omega), List.getElem?_eq_none (by rw [ft_len]; omega)]
theorem ft_Met_post {l : Launch} {y : MethodName} {ws : List Cond} {rm : Room} {Pc : Array Value → State → Prop} {Qc Qd : Array Value → State → Outcome → State → Prop} {mc ms : Nat} {free : Addr → Prop} (hM : Met l y ws rm Pc Qc mc ms free) (h : ∀ a s o t, Qc a s o t → Qd a s o t) : Met l y ws rm Pc Qd mc ms free := by
  intro p e h1 h2 h3 s m args below hf ha hp hk
  obtain ⟨n, o, g1, g2, g3, g4⟩ := hM p e h1 h2 h3 s m args below hf ha hp hk
  exact ⟨n, o, g1, g2, g3, h _ _ _ _ g4.1, g4.2⟩
theorem c_X4_copyFrom (l : Launch) (dC : va_G) (ad : Nat → Nat) (k : Nat → ClassId) (r : Nat → Int32) (ad2 : Nat → Nat) (r2 : Nat → Int32)  : Met l yX4_copyFrom wsX4_copyFrom ({ frames := 2, cells := 0, slots := 0, locals := 81 }) (ft_Pd dC k [.ref (ad 0), .ref (ad2 0)] (ft_WS2 ad k r ad2 r2)) (va_Qv (fun u : Nat → Int32 => u = s_X4_copyFrom r r2) (fun (u : Nat → Int32) (t : State) => va_P dC vwCl (ft_WS2 ad k u ad2 r2) t.heap) (ft_A 46 (ft_bl 23 ad ad2))) 0 0 (ft_A 46 (ft_bl 23 ad ad2)) :=
  ft_Met_post (c_X4_copyFrom_o l dC ad k r ad2 r2) (fun a s o t hq => by
    obtain ⟨⟨u, e1, e2, e3⟩, e4⟩ := hq
    refine ⟨⟨r2, e1, rfl, ?_⟩, e4⟩
    have e3 : va_P dC vwCl (ft_WS2 ad k u ad2 r2) t.heap := e3
    rw [e2] at e3
    exact ft_cast e3 (ft_S2_congr (ft_X4cp r r2)))

def s_X4_letCustomersArrive_L2 (r : Nat → Int32)  (K : Int32 → (Nat → Int32) → (Nat → Int32)) : Nat → Int32 → (Nat → Int32) → (Nat → Int32)
  | 0, y1_2, r_2 => K y1_2 r_2
  | n + 1, y1_2, r_2 => if (r_2 3) ≤ y1_2 then (K y1_2 r_2) else (ft_op (s_X4_shortestOpenQueue (va_up r_2 4 ((r_2 4) + 1))) (s_X4_letCustomersArrive_L2 r K n (y1_2 + 1) (va_up (va_up r_2 4 ((r_2 4) + 1)) 7 (((va_up r_2 4 ((r_2 4) + 1)) 7) + 1))) (fun j_30 => if ((s_X6_joinQueue (va_up r_2 4 ((r_2 4) + 1)) (51 + 17 * j_30) (s_J9_floorMod_7cf53 (r_2 4) 4)).1) = 0 then (s_X4_letCustomersArrive_L2 r K n (y1_2 + 1) (va_up ((s_X6_joinQueue (va_up r_2 4 ((r_2 4) + 1)) (51 + 17 * j_30) (s_J9_floorMod_7cf53 (r_2 4) 4)).2) 7 ((((s_X6_joinQueue (va_up r_2 4 ((r_2 4) + 1)) (51 + 17 * j_30) (s_J9_floorMod_7cf53 (r_2 4) 4)).2) 7) + 1))) else (s_X4_letCustomersArrive_L2 r K n (y1_2 + 1) ((s_X6_joinQueue (va_up r_2 4 ((r_2 4) + 1)) (51 + 17 * j_30) (s_J9_floorMod_7cf53 (r_2 4) 4)).2))))
def s_X4_letCustomersArrive (r : Nat → Int32)  : (Nat → Int32) := s_X4_letCustomersArrive_L2 r (fun y1_2 r_2 => r_2) (tn (r 3) + 1) 0 r
set_option maxHeartbeats 4000000 in
set_option maxRecDepth 100000 in
theorem c_X4_letCustomersArrive (l : Launch) (dC : va_G) (ad : Nat → Nat) (k : Nat → ClassId) (r : Nat → Int32)  : Met l yX4_letCustomersArrive wsX4_letCustomersArrive ({ frames := 3, cells := 0, slots := 0, locals := 66 }) (ft_Pd dC k [.ref (ad 0)] (ft_WS ad k r)) (va_Qv (fun u : Nat → Int32 => u = s_X4_letCustomersArrive r) (fun (u : Nat → Int32) (t : State) => va_P dC vwCl (ft_WS ad k u) t.heap) (ft_A 23 ad)) 0 0 (ft_A 23 ad) := by
  refine Met.ofW (cc := cX4_letCustomersArrive) (maxL := 4) (ret := none) (by decide) rfl ?_
  intro p e s m args below meth c s₁ B hml hv
  obtain ⟨hargs, hP, hK, hD0⟩ := hv
  subst hargs
  have hx := B.exec
  have hb := B.bytes
  have hr := B.returns
  have hts := atoms_spec (ws := wsX4_letCustomersArrive) B.pre
  have hown : s.vm.findClass RX4 = some m.cls := findClass_of_methodNamed B.named
  have hlocks := B.notSynchronized
  have hD := ft_D_self hD0
  have hS : va_S (ft_A 23 ad) s.heap s.heap [] := va_S.rf
  have hl := lv_entry ([.ref (ad 0)]) (n := 4) (Nat.le_of_ble_eq_true rfl)
  rw [lg_entry_eq]
  generalize (lg_sl ([.ref (ad 0)]) ++ List.replicate (4 - (lg_sl ([.ref (ad 0)])).length) Slot.unset).toArray = ls at hl ⊢
  have hl : lv_has ls 4 [(0, .ref (ad 0))] := hl
  have hsp := (s_X4_letCustomersArrive.eq_1 r ).symm
  refine lv_iconst (v := 0) hx hb dX4_letCustomersArrive_0 (by decide) ?_
  refine lv_istore_n (lv' := [(1, .int (0)), (0, .ref (ad 0))]) hx hb dX4_letCustomersArrive_1 rfl hl (by decide) rfl (fun ls hl => ?_)
  have loop_2 : ∀ (K : Int32 → (Nat → Int32) → (Nat → Int32)) (hKx : ∀ (y1_2 : Int32) (i_2 : Nat) (hi_2 : y1_2 = nI i_2) (hm_2 : i_2 ≤ tn (r 3)) (r_2 : Nat → Int32) (H : Heap) (locs : List Loc) (hP : va_P dC vwCl (ft_WS ad k r_2) H) (hD : va_D (ft_A 23 ad) (ft_WS ad k r_2)) (hS : va_S (ft_A 23 ad) s.heap H locs) (hw_2 : r_2 3 = r 3) (ls : Array Slot) (hl : lv_has ls 4 [(1, .int (y1_2)), (0, .ref (ad 0))]) (hsp : K y1_2 r_2 = s_X4_letCustomersArrive r), W p l e (headSpec wsX4_letCustomersArrive ({ frames := 3, cells := 0, slots := 0, locals := 66 })).room s m ([.ref (ad 0)] : List Value).toArray below meth c H locs 0 0 (MQ below (va_Qv (fun u : Nat → Int32 => u = s_X4_letCustomersArrive r) (fun (u : Nat → Int32) (t : State) => va_P dC vwCl (ft_WS ad k u) t.heap) (ft_A 23 ad)) ([.ref (ad 0)] : List Value).toArray s 0 0 (ft_A 23 ad)) (F0 m 62 ls [])) (n_2 : Nat), ∀ (y1_2 : Int32) (i_2 : Nat) (hi_2 : y1_2 = nI i_2) (hm_2 : i_2 ≤ tn (r 3)) (hn_2 : tn (r 3) < n_2 + i_2) (r_2 : Nat → Int32) (H : Heap) (locs : List Loc) (hP : va_P dC vwCl (ft_WS ad k r_2) H) (hD : va_D (ft_A 23 ad) (ft_WS ad k r_2)) (hS : va_S (ft_A 23 ad) s.heap H locs) (hw_2 : r_2 3 = r 3) (ls : Array Slot) (hl : lv_has ls 4 [(1, .int (y1_2)), (0, .ref (ad 0))]) (hsp : s_X4_letCustomersArrive_L2 r K n_2 y1_2 r_2 = s_X4_letCustomersArrive r), W p l e (headSpec wsX4_letCustomersArrive ({ frames := 3, cells := 0, slots := 0, locals := 66 })).room s m ([.ref (ad 0)] : List Value).toArray below meth c H locs 0 0 (MQ below (va_Qv (fun u : Nat → Int32 => u = s_X4_letCustomersArrive r) (fun (u : Nat → Int32) (t : State) => va_P dC vwCl (ft_WS ad k u) t.heap) (ft_A 23 ad)) ([.ref (ad 0)] : List Value).toArray s 0 0 (ft_A 23 ad)) (F0 m 2 ls []) := by
    intro K hKx n_2
    induction n_2 with
    | zero => intro y1_2 i_2 hi_2 hm_2 hn_2; exact absurd hn_2 (by omega)
    | succ n ih_2 =>
      intro y1_2 i_2 hi_2 hm_2 hn_2 r_2 H locs hP hD hS hw_2 ls hl hsp
      rw [s_X4_letCustomersArrive_L2] at hsp
      refine lv_iload_n hx hb dX4_letCustomersArrive_2 rfl (lv_at hl 0 rfl) ?_
      refine lv_aload_n hx hb dX4_letCustomersArrive_3 rfl (lv_at hl 1 rfl) ?_
      refine va_get (D := dC) (ci := 6) (v := .int (r_2 3)) (C := RX4) (T := TX4) (N := 12) hx hb hts (by decide +kernel) hown hK.1 hP 0 (ft_get' (by decide) rfl) rfl 7 (by decide) (hts (.fieldLink RX4 27 "FoodTruckRota$Square" "customersPerMinute" "I") (by decide +kernel)) (fun _ h9 => h9) rfl dX4_letCustomersArrive_4 ?_
      refine lv_icmp_ge (tgt := 62) hx hb dX4_letCustomersArrive_7 (by decide) (fun c_7 => ?_) (fun c_7 => ?_)
      · replace hsp := (if_pos c_7).symm.trans hsp
        exact hKx y1_2 i_2 hi_2 hm_2 r_2 _ _ hP hD hS hw_2 ls (lv_sub hl [0, 1] rfl) hsp
      · replace hsp := (if_neg c_7).symm.trans hsp
        have hlt_2 := ft_step hi_2 hm_2 (by rw [← hw_2]; exact c_7)
        refine lv_aload_n hx hb dX4_letCustomersArrive_10 rfl (lv_at hl 1 rfl) ?_
        refine va_get (D := dC) (ci := 6) (v := .int (r_2 4)) (C := RX4) (T := TX4) (N := 12) hx hb hts (by decide +kernel) hown hK.1 hP 0 (ft_get' (by decide) rfl) rfl 8 (by decide) (hts (.fieldLink RX4 57 "FoodTruckRota$Square" "arrived" "I") (by decide +kernel)) (fun _ h9 => h9) rfl dX4_letCustomersArrive_11 ?_
        refine lv_iconst (v := 4) hx hb dX4_letCustomersArrive_14 (by decide) ?_
        refine vp_callSi (va_Run.run (va_runS (As := [.int (r_2 4), .int (4)]) (rest := []) ⟨hx, hb, hml, hown, hts⟩ (c_J9_floorMod_7cf53 l (r_2 4) 4 (by decide)) (va_cwS 2 hts gX4_letCustomersArrive_J9_floorMod_7cf53 rfl rfl rfl (by decide +kernel) ⟨Nat.le_of_ble_eq_true rfl, Nat.le_of_ble_eq_true rfl⟩) ft_preSn rfl rfl hl.1 rfl (lv_room (Nat.le_of_ble_eq_true rfl)) dX4_letCustomersArrive_15 ⟨Nat.le_of_ble_eq_true rfl, Nat.le_of_ble_eq_true rfl⟩)) (fun z hz => ?_)
        subst hz
        refine lv_istore_n (lv' := [(2, .int ((s_J9_floorMod_7cf53 (r_2 4) 4))), (1, .int (y1_2)), (0, .ref (ad 0))]) hx hb dX4_letCustomersArrive_18 rfl hl (by decide) rfl (fun ls hl => ?_)
        refine lv_aload_n hx hb dX4_letCustomersArrive_19 rfl (lv_at hl 2 rfl) ?_
        refine lv_dup hx hb dX4_letCustomersArrive_20 rfl ?_
        refine va_get (D := dC) (ci := 6) (v := .int (r_2 4)) (C := RX4) (T := TX4) (N := 12) hx hb hts (by decide +kernel) hown hK.1 hP 0 (ft_get' (by decide) rfl) rfl 8 (by decide) (hts (.fieldLink RX4 57 "FoodTruckRota$Square" "arrived" "I") (by decide +kernel)) (fun _ h9 => h9) rfl dX4_letCustomersArrive_21 ?_
        refine lv_iconst (v := 1) hx hb dX4_letCustomersArrive_24 (by decide) ?_
        refine lv_iadd hx hb dX4_letCustomersArrive_25 ?_
        refine va_put (D := dC) (ci := 6) (v := .int ((r_2 4) + 1)) (ty := .int) (C := RX4) (T := TX4) (N := 12) hx hb hts (by decide +kernel) tyX4 tyX4_ok nmX4 hown hK.1 hP hD hS 0 (ft_get' (by decide) rfl) rfl 8 (by decide) (hts (.fieldLink RX4 57 "FoodTruckRota$Square" "arrived" "I") (by decide +kernel)) (fun _ h9 => h9) rfl (by decide +kernel) rfl rfl (Nat.le_of_ble_eq_true rfl) dX4_letCustomersArrive_26 (fun H locs hP hD hS => ?_)
        have hP := ft_cast hP ft_S_p4
        have hD := ft_castD hD ft_S_p4
        have hP : va_P dC vwCl (ft_WS ad k (va_up r_2 4 ((r_2 4) + 1))) H := hP
        have hD : va_D (ft_A 23 ad) (ft_WS ad k (va_up r_2 4 ((r_2 4) + 1))) := hD
        refine lv_aload_n hx hb dX4_letCustomersArrive_29 rfl (lv_at hl 2 rfl) ?_
        refine va_cse (va_Run.run (va_runV (As := []) (rest := []) ⟨hx, hb, hml, hown, hts⟩ (c_X4_shortestOpenQueue l dC ad k (va_up r_2 4 ((r_2 4) + 1))) (cwV 0 hts gX4_letCustomersArrive_X4_shortestOpenQueue rfl rfl rfl (by decide +kernel) ⟨Nat.le_of_ble_eq_true rfl, Nat.le_of_ble_eq_true rfl⟩) (ft_preVc hK hP (ci := 6) rfl (ft_get' (by decide) rfl)) rfl rfl hl.1 rfl (lv_room (Nat.le_of_ble_eq_true rfl)) dX4_letCustomersArrive_30 ⟨Nat.le_of_ble_eq_true rfl, Nat.le_of_ble_eq_true rfl⟩)) (fun o ho => ?_)
        obtain ⟨ho1, ho2⟩ := ho
        rw [← ho1] at hsp
        cases o with
        | none =>
          refine W.eq (g2 := F0 m 33 ls [.null]) rfl ?_
          replace hsp := (ft_op_n _ _).symm.trans hsp
          refine lv_astore_nN (lv' := [(3, .null), (2, .int ((s_J9_floorMod_7cf53 (r_2 4) 4))), (1, .int (y1_2)), (0, .ref (ad 0))]) hx hb dX4_letCustomersArrive_33 rfl hl (by decide) rfl (fun ls hl => ?_)
          refine lv_aload_nN hx hb dX4_letCustomersArrive_34 rfl (lv_at hl 0 rfl) ?_
          refine lv_ifnullN (tgt := 46) hx hb dX4_letCustomersArrive_35 (by decide) ?_
          refine lv_aload_n hx hb dX4_letCustomersArrive_46 rfl (lv_at hl 3 rfl) ?_
          refine lv_dup hx hb dX4_letCustomersArrive_47 rfl ?_
          refine va_get (D := dC) (ci := 6) (v := .int ((va_up r_2 4 ((r_2 4) + 1)) 7)) (C := RX4) (T := TX4) (N := 12) hx hb hts (by decide +kernel) hown hK.1 hP 0 (ft_get' (by decide) rfl) rfl 11 (by decide) (hts (.fieldLink RX4 66 "FoodTruckRota$Square" "lost" "I") (by decide +kernel)) (fun _ h9 => h9) rfl dX4_letCustomersArrive_48 ?_
          refine lv_iconst (v := 1) hx hb dX4_letCustomersArrive_51 (by decide) ?_
          refine lv_iadd hx hb dX4_letCustomersArrive_52 ?_
          refine va_put (D := dC) (ci := 6) (v := .int (((va_up r_2 4 ((r_2 4) + 1)) 7) + 1)) (ty := .int) (C := RX4) (T := TX4) (N := 12) hx hb hts (by decide +kernel) tyX4 tyX4_ok nmX4 hown hK.1 hP hD hS 0 (ft_get' (by decide) rfl) rfl 11 (by decide) (hts (.fieldLink RX4 66 "FoodTruckRota$Square" "lost" "I") (by decide +kernel)) (fun _ h9 => h9) rfl (by decide +kernel) rfl rfl (Nat.le_of_ble_eq_true rfl) dX4_letCustomersArrive_53 (fun H locs hP hD hS => ?_)
          have hP := ft_cast hP ft_S_p7
          have hD := ft_castD hD ft_S_p7
          have hP : va_P dC vwCl (ft_WS ad k (va_up (va_up r_2 4 ((r_2 4) + 1)) 7 (((va_up r_2 4 ((r_2 4) + 1)) 7) + 1))) H := hP
          have hD : va_D (ft_A 23 ad) (ft_WS ad k (va_up (va_up r_2 4 ((r_2 4) + 1)) 7 (((va_up r_2 4 ((r_2 4) + 1)) 7) + 1))) := hD
          refine lv_iinc (v := y1_2 + 1) (lv' := [(1, .int (y1_2 + 1)), (3, .null), (2, .int ((s_J9_floorMod_7cf53 (r_2 4) 4))), (0, .ref (ad 0))]) hx hb dX4_letCustomersArrive_56 hl (k := 2) rfl rfl (by decide) rfl (fun ls hl => ?_)
          refine lv_goto (tgt := 2) hx hb dX4_letCustomersArrive_59 (by decide) ?_
          exact ih_2 (y1_2 + 1) (i_2 + 1) (by rw [hi_2, nI_1]) hlt_2 (by omega) (va_up (va_up r_2 4 ((r_2 4) + 1)) 7 (((va_up r_2 4 ((r_2 4) + 1)) 7) + 1)) _ _ hP hD hS (by first | (rw [o_X6_joinQueue _ _ _ 3 (by omega), va_up_ne _ _ (by decide)]; exact hw_2) | (rw [va_up_ne _ _ (by decide), va_up_ne _ _ (by decide)]; exact hw_2) | (rw [va_up_ne _ _ (by decide), o_X6_joinQueue _ _ _ 3 (by omega), va_up_ne _ _ (by decide)]; exact hw_2)) ls (lv_sub hl [0, 3] rfl) hsp
        | some j_30 =>
          refine W.eq (g2 := F0 m 33 ls [.ref (ft_at ad j_30 0)]) rfl ?_
          replace hsp := (ft_op_s _ _ _).symm.trans hsp
          refine lv_astore_n (lv' := [(3, .ref (ft_at ad j_30 0)), (2, .int ((s_J9_floorMod_7cf53 (r_2 4) 4))), (1, .int (y1_2)), (0, .ref (ad 0))]) hx hb dX4_letCustomersArrive_33 rfl hl (by decide) rfl (fun ls hl => ?_)
          refine lv_aload_n hx hb dX4_letCustomersArrive_34 rfl (lv_at hl 0 rfl) ?_
          refine lv_ifnull hx hb dX4_letCustomersArrive_35 ?_
          refine lv_aload_n hx hb dX4_letCustomersArrive_38 rfl (lv_at hl 0 rfl) ?_
          refine lv_iload_n hx hb dX4_letCustomersArrive_39 rfl (lv_at hl 1 rfl) ?_
          refine va_calli (va_runV (As := [.int ((s_J9_floorMod_7cf53 (r_2 4) 4))]) (rest := []) ⟨hx, hb, hml, hown, hts⟩ (c_X6_joinQueue l dC (ft_at ad j_30) k (va_up r_2 4 ((r_2 4) + 1)) (51 + 17 * j_30) (s_J9_floorMod_7cf53 (r_2 4) 4)) (cwV 1 hts gX4_letCustomersArrive_X6_joinQueue rfl rfl rfl (by decide +kernel) ⟨Nat.le_of_ble_eq_true rfl, Nat.le_of_ble_eq_true rfl⟩) (ft_preVd hK (ft_S_P hP (ho2 j_30 rfl)) (ft_S_D hD (ho2 j_30 rfl)) (ci := 8) rfl (ft_get' (by decide) rfl)) rfl rfl hl.1 rfl (lv_room (Nat.le_of_ble_eq_true rfl)) dX4_letCustomersArrive_40 ⟨Nat.le_of_ble_eq_true rfl, Nat.le_of_ble_eq_true rfl⟩) hS (fun q _ h => ft_S_A hD (ho2 j_30 rfl) q h) (fun q h => ft_S_A hD (ho2 j_30 rfl) q h) (fun z u t H1 locs ht hvm hw hB hz1 hk1 hS => ?_)
          obtain ⟨rfl, rfl⟩ : z = (s_X6_joinQueue (va_up r_2 4 ((r_2 4) + 1)) (51 + 17 * j_30) (s_J9_floorMod_7cf53 (r_2 4) 4)).1 ∧ u = (s_X6_joinQueue (va_up r_2 4 ((r_2 4) + 1)) (51 + 17 * j_30) (s_J9_floorMod_7cf53 (r_2 4) 4)).2 := ⟨congrArg Prod.fst hw, congrArg Prod.snd hw⟩
          rw [ht] at hB
          have hP : va_P dC vwCl (ft_WS ad k ((s_X6_joinQueue (va_up r_2 4 ((r_2 4) + 1)) (51 + 17 * j_30) (s_J9_floorMod_7cf53 (r_2 4) 4)).2)) H1 := ft_S_join hP hD (ho2 j_30 rfl) hk1 hB (o_X6_joinQueue _ _ _)
          have hD : va_D (ft_A 23 ad) (ft_WS ad k ((s_X6_joinQueue (va_up r_2 4 ((r_2 4) + 1)) (51 + 17 * j_30) (s_J9_floorMod_7cf53 (r_2 4) 4)).2)) := ft_D_va hD _
          generalize H1 = H at hP hS ⊢
          refine lv_if_ne (tgt := 56) hx hb dX4_letCustomersArrive_43 (by decide) (fun c_43 => ?_) (fun c_43 => ?_)
          · replace hsp := (if_neg c_43).symm.trans hsp
            refine lv_iinc (v := y1_2 + 1) (lv' := [(1, .int (y1_2 + 1)), (3, .ref (ft_at ad j_30 0)), (2, .int ((s_J9_floorMod_7cf53 (r_2 4) 4))), (0, .ref (ad 0))]) hx hb dX4_letCustomersArrive_56 hl (k := 2) rfl rfl (by decide) rfl (fun ls hl => ?_)
            refine lv_goto (tgt := 2) hx hb dX4_letCustomersArrive_59 (by decide) ?_
            exact ih_2 (y1_2 + 1) (i_2 + 1) (by rw [hi_2, nI_1]) hlt_2 (by omega) ((s_X6_joinQueue (va_up r_2 4 ((r_2 4) + 1)) (51 + 17 * j_30) (s_J9_floorMod_7cf53 (r_2 4) 4)).2) _ _ hP hD hS (by first | (rw [o_X6_joinQueue _ _ _ 3 (by omega), va_up_ne _ _ (by decide)]; exact hw_2) | (rw [va_up_ne _ _ (by decide), va_up_ne _ _ (by decide)]; exact hw_2) | (rw [va_up_ne _ _ (by decide), o_X6_joinQueue _ _ _ 3 (by omega), va_up_ne _ _ (by decide)]; exact hw_2)) ls (lv_sub hl [0, 3] rfl) hsp
          · replace hsp := (if_pos c_43).symm.trans hsp
            refine lv_aload_n hx hb dX4_letCustomersArrive_46 rfl (lv_at hl 3 rfl) ?_
            refine lv_dup hx hb dX4_letCustomersArrive_47 rfl ?_
            refine va_get (D := dC) (ci := 6) (v := .int (((s_X6_joinQueue (va_up r_2 4 ((r_2 4) + 1)) (51 + 17 * j_30) (s_J9_floorMod_7cf53 (r_2 4) 4)).2) 7)) (C := RX4) (T := TX4) (N := 12) hx hb hts (by decide +kernel) hown hK.1 hP 0 (ft_get' (by decide) rfl) rfl 11 (by decide) (hts (.fieldLink RX4 66 "FoodTruckRota$Square" "lost" "I") (by decide +kernel)) (fun _ h9 => h9) rfl dX4_letCustomersArrive_48 ?_
            refine lv_iconst (v := 1) hx hb dX4_letCustomersArrive_51 (by decide) ?_
            refine lv_iadd hx hb dX4_letCustomersArrive_52 ?_
            refine va_put (D := dC) (ci := 6) (v := .int ((((s_X6_joinQueue (va_up r_2 4 ((r_2 4) + 1)) (51 + 17 * j_30) (s_J9_floorMod_7cf53 (r_2 4) 4)).2) 7) + 1)) (ty := .int) (C := RX4) (T := TX4) (N := 12) hx hb hts (by decide +kernel) tyX4 tyX4_ok nmX4 hown hK.1 hP hD hS 0 (ft_get' (by decide) rfl) rfl 11 (by decide) (hts (.fieldLink RX4 66 "FoodTruckRota$Square" "lost" "I") (by decide +kernel)) (fun _ h9 => h9) rfl (by decide +kernel) rfl rfl (Nat.le_of_ble_eq_true rfl) dX4_letCustomersArrive_53 (fun H locs hP hD hS => ?_)
            have hP := ft_cast hP ft_S_p7
            have hD := ft_castD hD ft_S_p7
            have hP : va_P dC vwCl (ft_WS ad k (va_up ((s_X6_joinQueue (va_up r_2 4 ((r_2 4) + 1)) (51 + 17 * j_30) (s_J9_floorMod_7cf53 (r_2 4) 4)).2) 7 ((((s_X6_joinQueue (va_up r_2 4 ((r_2 4) + 1)) (51 + 17 * j_30) (s_J9_floorMod_7cf53 (r_2 4) 4)).2) 7) + 1))) H := hP
            have hD : va_D (ft_A 23 ad) (ft_WS ad k (va_up ((s_X6_joinQueue (va_up r_2 4 ((r_2 4) + 1)) (51 + 17 * j_30) (s_J9_floorMod_7cf53 (r_2 4) 4)).2) 7 ((((s_X6_joinQueue (va_up r_2 4 ((r_2 4) + 1)) (51 + 17 * j_30) (s_J9_floorMod_7cf53 (r_2 4) 4)).2) 7) + 1))) := hD
            refine lv_iinc (v := y1_2 + 1) (lv' := [(1, .int (y1_2 + 1)), (3, .ref (ft_at ad j_30 0)), (2, .int ((s_J9_floorMod_7cf53 (r_2 4) 4))), (0, .ref (ad 0))]) hx hb dX4_letCustomersArrive_56 hl (k := 2) rfl rfl (by decide) rfl (fun ls hl => ?_)
            refine lv_goto (tgt := 2) hx hb dX4_letCustomersArrive_59 (by decide) ?_
            exact ih_2 (y1_2 + 1) (i_2 + 1) (by rw [hi_2, nI_1]) hlt_2 (by omega) (va_up ((s_X6_joinQueue (va_up r_2 4 ((r_2 4) + 1)) (51 + 17 * j_30) (s_J9_floorMod_7cf53 (r_2 4) 4)).2) 7 ((((s_X6_joinQueue (va_up r_2 4 ((r_2 4) + 1)) (51 + 17 * j_30) (s_J9_floorMod_7cf53 (r_2 4) 4)).2) 7) + 1)) _ _ hP hD hS (by first | (rw [o_X6_joinQueue _ _ _ 3 (by omega), va_up_ne _ _ (by decide)]; exact hw_2) | (rw [va_up_ne _ _ (by decide), va_up_ne _ _ (by decide)]; exact hw_2) | (rw [va_up_ne _ _ (by decide), o_X6_joinQueue _ _ _ 3 (by omega), va_up_ne _ _ (by decide)]; exact hw_2)) ls (lv_sub hl [0, 3] rfl) hsp
  refine loop_2 _ (fun y1_2 i_2 hi_2 hm_2 r_2 H locs hP hD hS hw_2 ls hl hsp => ?_) (tn (r 3) + 1) 0 0 rfl (by omega) (by omega) r _ _ hP hD hS rfl ls (lv_sub hl [0, 1] rfl) hsp
  exact W.vret hx hb hr (fun t ht hW => ⟨⟨r_2, rfl, hsp, ft_heap ht hP⟩, hS.F ht⟩) hS.2.2 dX4_letCustomersArrive_62

def s_X4_passMinutes_L7 (r : Nat → Int32) (x1 : Int32) (K : Int32 → (Nat → Int32) → Int32 × (Nat → Int32)) : Nat → Int32 → (Nat → Int32) → Int32 × (Nat → Int32)
  | 0, y3_7, r_7 => K y3_7 r_7
  | n + 1, y3_7, r_7 => if x1 ≤ y3_7 then (K y3_7 r_7) else (if ((va_up (s_X4_letTrucksWork (s_X4_letCustomersArrive r_7)) 2 (((s_X4_letTrucksWork (s_X4_letCustomersArrive r_7)) 2) + 1)) 2) < 60 then (s_X4_passMinutes_L7 r x1 K n (y3_7 + 1) (va_up (s_X4_letTrucksWork (s_X4_letCustomersArrive r_7)) 2 (((s_X4_letTrucksWork (s_X4_letCustomersArrive r_7)) 2) + 1))) else (s_X4_passMinutes_L7 r x1 K n (y3_7 + 1) (s_X4_endDay (va_up (s_X4_letTrucksWork (s_X4_letCustomersArrive r_7)) 2 (((s_X4_letTrucksWork (s_X4_letCustomersArrive r_7)) 2) + 1)))))
def s_X4_passMinutes (r : Nat → Int32) (x1 : Int32) : Int32 × (Nat → Int32) := s_X4_passMinutes_L7 r x1 (fun y3_7 r_7 => ((r_7 5) - (r 5), r_7)) (tn x1 + 1) 0 r
set_option maxHeartbeats 4000000 in
set_option maxRecDepth 100000 in
theorem c_X4_passMinutes (l : Launch) (dC : va_G) (ad : Nat → Nat) (k : Nat → ClassId) (r : Nat → Int32) (x1 : Int32) : Met l yX4_passMinutes wsX4_passMinutes ({ frames := 4, cells := 0, slots := 0, locals := 89 }) (ft_Pd dC k [.ref (ad 0), .int x1] (ft_WS ad k r)) (va_Qi (fun (z : Int32) (u : Nat → Int32) => (z, u) = s_X4_passMinutes r x1) (fun (u : Nat → Int32) (t : State) => va_P dC vwCl (ft_WS ad k u) t.heap) (ft_A 23 ad)) 0 0 (ft_A 23 ad) := by
  refine Met.ofW (cc := cX4_passMinutes) (maxL := 4) (ret := (some .int)) (by decide) rfl ?_
  intro p e s m args below meth c s₁ B hml hv
  obtain ⟨hargs, hP, hK, hD0⟩ := hv
  subst hargs
  have hx := B.exec
  have hb := B.bytes
  have hr := B.returns
  have hts := atoms_spec (ws := wsX4_passMinutes) B.pre
  have hown : s.vm.findClass RX4 = some m.cls := findClass_of_methodNamed B.named
  have hlocks := B.notSynchronized
  have hD := ft_D_self hD0
  have hS : va_S (ft_A 23 ad) s.heap s.heap [] := va_S.rf
  have hl := lv_entry ([.ref (ad 0), .int x1]) (n := 4) (Nat.le_of_ble_eq_true rfl)
  rw [lg_entry_eq]
  generalize (lg_sl ([.ref (ad 0), .int x1]) ++ List.replicate (4 - (lg_sl ([.ref (ad 0), .int x1])).length) Slot.unset).toArray = ls at hl ⊢
  have hl : lv_has ls 4 [(0, .ref (ad 0)), (1, .int (x1))] := hl
  have hsp := (s_X4_passMinutes.eq_1 r x1).symm
  refine lv_aload_n hx hb dX4_passMinutes_0 rfl (lv_at hl 0 rfl) ?_
  refine va_get (D := dC) (ci := 6) (v := .int (r 5)) (C := RX4) (T := TX4) (N := 12) hx hb hts (by decide +kernel) hown hK.1 hP 0 (ft_get' (by decide) rfl) rfl 9 (by decide) (hts (.fieldLink RX4 60 "FoodTruckRota$Square" "served" "I") (by decide +kernel)) (fun _ h9 => h9) rfl dX4_passMinutes_1 ?_
  refine lv_istore_n (lv' := [(2, .int (r 5)), (0, .ref (ad 0)), (1, .int (x1))]) hx hb dX4_passMinutes_4 rfl hl (by decide) rfl (fun ls hl => ?_)
  refine lv_iconst (v := 0) hx hb dX4_passMinutes_5 (by decide) ?_
  refine lv_istore_n (lv' := [(3, .int (0)), (2, .int (r 5)), (0, .ref (ad 0)), (1, .int (x1))]) hx hb dX4_passMinutes_6 rfl hl (by decide) rfl (fun ls hl => ?_)
  have loop_7 : ∀ (K : Int32 → (Nat → Int32) → Int32 × (Nat → Int32)) (hKx : ∀ (y3_7 : Int32) (i_7 : Nat) (hi_7 : y3_7 = nI i_7) (hm_7 : i_7 ≤ tn x1) (r_7 : Nat → Int32) (H : Heap) (locs : List Loc) (hP : va_P dC vwCl (ft_WS ad k r_7) H) (hD : va_D (ft_A 23 ad) (ft_WS ad k r_7)) (hS : va_S (ft_A 23 ad) s.heap H locs) (ls : Array Slot) (hl : lv_has ls 4 [(3, .int (y3_7)), (2, .int (r 5)), (0, .ref (ad 0)), (1, .int (x1))]) (hsp : K y3_7 r_7 = s_X4_passMinutes r x1), W p l e (headSpec wsX4_passMinutes ({ frames := 4, cells := 0, slots := 0, locals := 89 })).room s m ([.ref (ad 0), .int x1] : List Value).toArray below meth c H locs 0 0 (MQ below (va_Qi (fun (z : Int32) (u : Nat → Int32) => (z, u) = s_X4_passMinutes r x1) (fun (u : Nat → Int32) (t : State) => va_P dC vwCl (ft_WS ad k u) t.heap) (ft_A 23 ad)) ([.ref (ad 0), .int x1] : List Value).toArray s 0 0 (ft_A 23 ad)) (F0 m 49 ls [])) (n_7 : Nat), ∀ (y3_7 : Int32) (i_7 : Nat) (hi_7 : y3_7 = nI i_7) (hm_7 : i_7 ≤ tn x1) (hn_7 : tn x1 < n_7 + i_7) (r_7 : Nat → Int32) (H : Heap) (locs : List Loc) (hP : va_P dC vwCl (ft_WS ad k r_7) H) (hD : va_D (ft_A 23 ad) (ft_WS ad k r_7)) (hS : va_S (ft_A 23 ad) s.heap H locs) (ls : Array Slot) (hl : lv_has ls 4 [(3, .int (y3_7)), (2, .int (r 5)), (0, .ref (ad 0)), (1, .int (x1))]) (hsp : s_X4_passMinutes_L7 r x1 K n_7 y3_7 r_7 = s_X4_passMinutes r x1), W p l e (headSpec wsX4_passMinutes ({ frames := 4, cells := 0, slots := 0, locals := 89 })).room s m ([.ref (ad 0), .int x1] : List Value).toArray below meth c H locs 0 0 (MQ below (va_Qi (fun (z : Int32) (u : Nat → Int32) => (z, u) = s_X4_passMinutes r x1) (fun (u : Nat → Int32) (t : State) => va_P dC vwCl (ft_WS ad k u) t.heap) (ft_A 23 ad)) ([.ref (ad 0), .int x1] : List Value).toArray s 0 0 (ft_A 23 ad)) (F0 m 7 ls []) := by
    intro K hKx n_7
    induction n_7 with
    | zero => intro y3_7 i_7 hi_7 hm_7 hn_7; exact absurd hn_7 (by omega)
    | succ n ih_7 =>
      intro y3_7 i_7 hi_7 hm_7 hn_7 r_7 H locs hP hD hS ls hl hsp
      rw [s_X4_passMinutes_L7] at hsp
      refine lv_iload_n hx hb dX4_passMinutes_7 rfl (lv_at hl 0 rfl) ?_
      refine lv_iload_n hx hb dX4_passMinutes_8 rfl (lv_at hl 3 rfl) ?_
      refine lv_icmp_ge (tgt := 49) hx hb dX4_passMinutes_9 (by decide) (fun c_9 => ?_) (fun c_9 => ?_)
      · replace hsp := (if_pos c_9).symm.trans hsp
        exact hKx y3_7 i_7 hi_7 hm_7 r_7 _ _ hP hD hS ls (lv_sub hl [0, 1, 2, 3] rfl) hsp
      · replace hsp := (if_neg c_9).symm.trans hsp
        have hlt_7 := ft_step hi_7 hm_7 c_9
        refine lv_aload_n hx hb dX4_passMinutes_12 rfl (lv_at hl 2 rfl) ?_
        refine va_callv (va_runV (As := []) (rest := []) ⟨hx, hb, hml, hown, hts⟩ (c_X4_letCustomersArrive l dC ad k r_7) (cwV 0 hts gX4_passMinutes_X4_letCustomersArrive rfl rfl rfl (by decide +kernel) ⟨Nat.le_of_ble_eq_true rfl, Nat.le_of_ble_eq_true rfl⟩) (ft_preVd hK hP hD (ci := 6) rfl (ft_get' (by decide) rfl)) rfl rfl hl.1 rfl (lv_room (Nat.le_of_ble_eq_true rfl)) dX4_passMinutes_13 ⟨Nat.le_of_ble_eq_true rfl, Nat.le_of_ble_eq_true rfl⟩) hS (fun q _ h => h) (fun q h => h) (fun u t H1 locs ht hvm hw hB hz1 hk1 hS => ?_)
        subst hw
        rw [ht] at hB
        have hP : va_P dC vwCl (ft_WS ad k (s_X4_letCustomersArrive r_7)) H1 := hB
        have hD : va_D (ft_A 23 ad) (ft_WS ad k (s_X4_letCustomersArrive r_7)) := ft_D_va hD _
        generalize H1 = H at hP hS ⊢
        refine lv_aload_n hx hb dX4_passMinutes_16 rfl (lv_at hl 2 rfl) ?_
        refine va_callv (va_runV (As := []) (rest := []) ⟨hx, hb, hml, hown, hts⟩ (c_X4_letTrucksWork l dC ad k (s_X4_letCustomersArrive r_7)) (cwV 0 hts gX4_passMinutes_X4_letTrucksWork rfl rfl rfl (by decide +kernel) ⟨Nat.le_of_ble_eq_true rfl, Nat.le_of_ble_eq_true rfl⟩) (ft_preVd hK hP hD (ci := 6) rfl (ft_get' (by decide) rfl)) rfl rfl hl.1 rfl (lv_room (Nat.le_of_ble_eq_true rfl)) dX4_passMinutes_17 ⟨Nat.le_of_ble_eq_true rfl, Nat.le_of_ble_eq_true rfl⟩) hS (fun q _ h => h) (fun q h => h) (fun u t H1 locs ht hvm hw hB hz1 hk1 hS => ?_)
        subst hw
        rw [ht] at hB
        have hP : va_P dC vwCl (ft_WS ad k (s_X4_letTrucksWork (s_X4_letCustomersArrive r_7))) H1 := hB
        have hD : va_D (ft_A 23 ad) (ft_WS ad k (s_X4_letTrucksWork (s_X4_letCustomersArrive r_7))) := ft_D_va hD _
        generalize H1 = H at hP hS ⊢
        refine lv_aload_n hx hb dX4_passMinutes_20 rfl (lv_at hl 2 rfl) ?_
        refine lv_dup hx hb dX4_passMinutes_21 rfl ?_
        refine va_get (D := dC) (ci := 6) (v := .int ((s_X4_letTrucksWork (s_X4_letCustomersArrive r_7)) 2)) (C := RX4) (T := TX4) (N := 12) hx hb hts (by decide +kernel) hown hK.1 hP 0 (ft_get' (by decide) rfl) rfl 6 (by decide) (hts (.fieldLink RX4 54 "FoodTruckRota$Square" "minuteCounter" "I") (by decide +kernel)) (fun _ h9 => h9) rfl dX4_passMinutes_22 ?_
        refine lv_iconst (v := 1) hx hb dX4_passMinutes_25 (by decide) ?_
        refine lv_iadd hx hb dX4_passMinutes_26 ?_
        refine va_put (D := dC) (ci := 6) (v := .int (((s_X4_letTrucksWork (s_X4_letCustomersArrive r_7)) 2) + 1)) (ty := .int) (C := RX4) (T := TX4) (N := 12) hx hb hts (by decide +kernel) tyX4 tyX4_ok nmX4 hown hK.1 hP hD hS 0 (ft_get' (by decide) rfl) rfl 6 (by decide) (hts (.fieldLink RX4 54 "FoodTruckRota$Square" "minuteCounter" "I") (by decide +kernel)) (fun _ h9 => h9) rfl (by decide +kernel) rfl rfl (Nat.le_of_ble_eq_true rfl) dX4_passMinutes_27 (fun H locs hP hD hS => ?_)
        have hP := ft_cast hP ft_S_p2
        have hD := ft_castD hD ft_S_p2
        have hP : va_P dC vwCl (ft_WS ad k (va_up (s_X4_letTrucksWork (s_X4_letCustomersArrive r_7)) 2 (((s_X4_letTrucksWork (s_X4_letCustomersArrive r_7)) 2) + 1))) H := hP
        have hD : va_D (ft_A 23 ad) (ft_WS ad k (va_up (s_X4_letTrucksWork (s_X4_letCustomersArrive r_7)) 2 (((s_X4_letTrucksWork (s_X4_letCustomersArrive r_7)) 2) + 1))) := hD
        refine lv_aload_n hx hb dX4_passMinutes_30 rfl (lv_at hl 2 rfl) ?_
        refine va_get (D := dC) (ci := 6) (v := .int ((va_up (s_X4_letTrucksWork (s_X4_letCustomersArrive r_7)) 2 (((s_X4_letTrucksWork (s_X4_letCustomersArrive r_7)) 2) + 1)) 2)) (C := RX4) (T := TX4) (N := 12) hx hb hts (by decide +kernel) hown hK.1 hP 0 (ft_get' (by decide) rfl) rfl 6 (by decide) (hts (.fieldLink RX4 54 "FoodTruckRota$Square" "minuteCounter" "I") (by decide +kernel)) (fun _ h9 => h9) rfl dX4_passMinutes_31 ?_
        refine lv_bipush (v := 60) hx hb dX4_passMinutes_34 (by decide) ?_
        refine lv_icmp_lt (tgt := 43) hx hb dX4_passMinutes_36 (by decide) (fun c_36 => ?_) (fun c_36 => ?_)
        · replace hsp := (if_pos c_36).symm.trans hsp
          refine lv_iinc (v := y3_7 + 1) (lv' := [(3, .int (y3_7 + 1)), (2, .int (r 5)), (0, .ref (ad 0)), (1, .int (x1))]) hx hb dX4_passMinutes_43 hl (k := 0) rfl rfl (by decide) rfl (fun ls hl => ?_)
          refine lv_goto (tgt := 7) hx hb dX4_passMinutes_46 (by decide) ?_
          exact ih_7 (y3_7 + 1) (i_7 + 1) (by rw [hi_7, nI_1]) hlt_7 (by omega) (va_up (s_X4_letTrucksWork (s_X4_letCustomersArrive r_7)) 2 (((s_X4_letTrucksWork (s_X4_letCustomersArrive r_7)) 2) + 1)) _ _ hP hD hS ls (lv_sub hl [0, 1, 2, 3] rfl) hsp
        · replace hsp := (if_neg c_36).symm.trans hsp
          refine lv_aload_n hx hb dX4_passMinutes_39 rfl (lv_at hl 2 rfl) ?_
          refine va_callv (va_runV (As := []) (rest := []) ⟨hx, hb, hml, hown, hts⟩ (c_X4_endDay l dC ad k (va_up (s_X4_letTrucksWork (s_X4_letCustomersArrive r_7)) 2 (((s_X4_letTrucksWork (s_X4_letCustomersArrive r_7)) 2) + 1))) (cwV 0 hts gX4_passMinutes_X4_endDay rfl rfl rfl (by decide +kernel) ⟨Nat.le_of_ble_eq_true rfl, Nat.le_of_ble_eq_true rfl⟩) (ft_preVd hK hP hD (ci := 6) rfl (ft_get' (by decide) rfl)) rfl rfl hl.1 rfl (lv_room (Nat.le_of_ble_eq_true rfl)) dX4_passMinutes_40 ⟨Nat.le_of_ble_eq_true rfl, Nat.le_of_ble_eq_true rfl⟩) hS (fun q _ h => h) (fun q h => h) (fun u t H1 locs ht hvm hw hB hz1 hk1 hS => ?_)
          subst hw
          rw [ht] at hB
          have hP : va_P dC vwCl (ft_WS ad k (s_X4_endDay (va_up (s_X4_letTrucksWork (s_X4_letCustomersArrive r_7)) 2 (((s_X4_letTrucksWork (s_X4_letCustomersArrive r_7)) 2) + 1)))) H1 := hB
          have hD : va_D (ft_A 23 ad) (ft_WS ad k (s_X4_endDay (va_up (s_X4_letTrucksWork (s_X4_letCustomersArrive r_7)) 2 (((s_X4_letTrucksWork (s_X4_letCustomersArrive r_7)) 2) + 1)))) := ft_D_va hD _
          generalize H1 = H at hP hS ⊢
          refine lv_iinc (v := y3_7 + 1) (lv' := [(3, .int (y3_7 + 1)), (2, .int (r 5)), (0, .ref (ad 0)), (1, .int (x1))]) hx hb dX4_passMinutes_43 hl (k := 0) rfl rfl (by decide) rfl (fun ls hl => ?_)
          refine lv_goto (tgt := 7) hx hb dX4_passMinutes_46 (by decide) ?_
          exact ih_7 (y3_7 + 1) (i_7 + 1) (by rw [hi_7, nI_1]) hlt_7 (by omega) (s_X4_endDay (va_up (s_X4_letTrucksWork (s_X4_letCustomersArrive r_7)) 2 (((s_X4_letTrucksWork (s_X4_letCustomersArrive r_7)) 2) + 1))) _ _ hP hD hS ls (lv_sub hl [0, 1, 2, 3] rfl) hsp
  refine loop_7 _ (fun y3_7 i_7 hi_7 hm_7 r_7 H locs hP hD hS ls hl hsp => ?_) (tn x1 + 1) 0 0 rfl (by omega) (by omega) r _ _ hP hD hS ls (lv_sub hl [0, 1, 2, 3] rfl) hsp
  refine lv_aload_n hx hb dX4_passMinutes_49 rfl (lv_at hl 2 rfl) ?_
  refine va_get (D := dC) (ci := 6) (v := .int (r_7 5)) (C := RX4) (T := TX4) (N := 12) hx hb hts (by decide +kernel) hown hK.1 hP 0 (ft_get' (by decide) rfl) rfl 9 (by decide) (hts (.fieldLink RX4 60 "FoodTruckRota$Square" "served" "I") (by decide +kernel)) (fun _ h9 => h9) rfl dX4_passMinutes_50 ?_
  refine lv_iload_n hx hb dX4_passMinutes_53 rfl (lv_at hl 1 rfl) ?_
  refine lv_isub hx hb dX4_passMinutes_54 ?_
  exact W.iret (v := (r_7 5) - (r 5)) hx hb hr (fun t ht hW => ⟨⟨(r_7 5) - (r 5), r_7, rfl, hsp, ft_heap ht hP⟩, hS.F ht⟩) hS.2.2 dX4_passMinutes_55
