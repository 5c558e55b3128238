set_option maxHeartbeats 4000000 in
set_option maxRecDepth 100000 in
theorem c_L_areTrucks (l : Launch) (hl0 : l.stackTraces = false) (D : va_G) (Z : Nat → Nat → Nat) (k : Nat → ClassId) (sz : ft_SZ) (a : Nat) (σ : ft_Sg) (J : Nat → ft_Sg → Prop) (G : (Nat → Int32) → Prop) (T : Nat → Nat → ft_Sg → Prop) (hJ : ft_JJ J G T) (jc0 : Nat) (h0 : J jc0 σ) (hc : jc0 + 0 ≤ 1000) (r : Nat → Int32) (hq : σ.1 0 = r) : Met l yL_areTrucks wsL_areTrucks ({ frames := 11, cells := 1208, slots := 27984, locals := 248 }) (ft_PM D k Z sz a σ [.ref a]) (ft_QR J D k Z sz a (jc0 + 0) (fun z u => z = 1 ∧ ft_zm σ u)) 1208 27984 (ft_AL sz) := by
  refine Met.ofW (cc := cL_areTrucks) (maxL := 10) (ret := (some .boolean)) (by decide) rfl ?_
  intro p e s m args below meth c s₁ B hml hv
  obtain ⟨hargs, hP, hEL, hz⟩ := hv
  have hE := hEL.1
  subst hargs
  have hx := B.exec
  have hb := B.bytes
  have hr := B.returns
  have hts := atoms_spec (ws := wsL_areTrucks) B.pre
  have hown : s.vm.findClass RL = some m.cls := findClass_of_methodNamed B.named
  have hlocks := B.notSynchronized
  have hS : va_S (ft_AL sz) s.heap s.heap [] := va_S.rf
  have hg : G r := hJ.gr h0 (by omega) hq
  have hl := lv_entry ([.ref a]) (n := 10) (Nat.le_of_ble_eq_true rfl)
  rw [lg_entry_eq]
  generalize (lg_sl ([.ref a]) ++ List.replicate (10 - (lg_sl ([.ref a])).length) Slot.unset).toArray = ls at hl ⊢
  have hl : lv_has ls 10 [(0, .ref (a))] := hl
  refine lv_iconst (v := 0) hx hb dL_areTrucks_0 (by decide) ?_
  refine lv_istore_n (lv' := [(1, .int (0)), (0, .ref (a))]) hx hb dL_areTrucks_1 rfl hl (by decide) rfl (fun ls hl => ?_)
  refine lv_iconst (v := 0) hx hb dL_areTrucks_2 (by decide) ?_
  refine lv_istore_n (lv' := [(2, .int (0)), (1, .int (0)), (0, .ref (a))]) hx hb dL_areTrucks_3 rfl hl (by decide) rfl (fun ls hl => ?_)
  refine lv_iconst (v := 0) hx hb dL_areTrucks_4 (by decide) ?_
  refine lv_istore_n (lv' := [(3, .int (0)), (2, .int (0)), (1, .int (0)), (0, .ref (a))]) hx hb dL_areTrucks_5 rfl hl (by decide) rfl (fun ls hl => ?_)
  refine lv_aload_n hx hb dL_areTrucks_6 rfl (lv_at hl 3 rfl) ?_
  refine lv_aload_n hx hb dL_areTrucks_7 rfl (lv_at hl 3 rfl) ?_
  refine vp_callSi (va_Run.run (va_runV (As := []) (rest := [.ref (a)]) ⟨hx, hb, hml, hown, hts⟩ (cl_truckCount l D Z k sz a σ) (cwV 0 hts gL_areTrucks_X7_truckCount rfl rfl rfl (by decide +kernel) ⟨Nat.le_of_ble_eq_true rfl, Nat.le_of_ble_eq_true rfl⟩) (ft_preL hE hz hS hP) rfl rfl hl.1 rfl (lv_room (Nat.le_of_ble_eq_true rfl)) dL_areTrucks_8 ⟨Nat.le_of_ble_eq_true rfl, Nat.le_of_ble_eq_true rfl⟩)) (fun z hz9 => ?_)
  replace hz9 : z = l_truckCount (ft_nr r) := hz9.trans (ft_ev (f := fun q9 => l_truckCount (ft_nr q9)) hq rfl)
  subst hz9
  refine va_calli (vx_runSW (As := [.ref (a), .int ((l_truckCount (ft_nr r)))]) (rest := []) ⟨hx, hb, hml, hown, hts⟩ (d_L_truckByCoins l hl0 D Z k sz a σ (l_truckCount (ft_nr r)) (ex_truckByCoins)) (vx_cwSW 2 hts gL_areTrucks_L_truckByCoins rfl rfl rfl (by decide +kernel) ⟨Nat.le_of_ble_eq_true rfl, Nat.le_of_ble_eq_true rfl⟩) (ft_preM hEL hz hS hP) rfl rfl hl.1 rfl (lv_room (Nat.le_of_ble_eq_true rfl)) dL_areTrucks_11 ⟨Nat.le_of_ble_eq_true rfl, Nat.le_of_ble_eq_true rfl⟩) hS (fun _ _ h => h) (fun _ h => h) (fun z u t H1 locs1 ht hvm hw hB hz1 hk1 hS1 => ?_)
  obtain rfl : z = w_truckByCoins (ft_nr r) (l_truckCount (ft_nr r)) := hw.trans (ft_ev (f := fun q9 => w_truckByCoins (ft_nr q9) (l_truckCount (ft_nr r))) hq rfl)
  rw [ht] at hB
  have hP := hB
  have hS := hS1
  clear hS1
  generalize H1 = H at hP hS ⊢
  refine W.widen (k := 1) (n := 6) (by omega) (by omega) ?_
  refine lv_sipush (v := (-1000)) hx hb dL_areTrucks_14 (by decide) ?_
  refine lv_icmp_ne (tgt := 35) hx hb dL_areTrucks_17 (by decide) (fun c_17 => ?_) (fun c_17 => ?_)
  · skip
    exact absurd (hJ.a1 hg) c_17
  · skip
    refine lv_aload_n hx hb dL_areTrucks_20 rfl (lv_at hl 3 rfl) ?_
    refine lv_iconst (v := (-1)) hx hb dL_areTrucks_21 (by decide) ?_
    refine va_calli (vx_runSW (As := [.ref (a), .int ((-1))]) (rest := []) ⟨hx, hb, hml, hown, hts⟩ (d_L_truckByCoins l hl0 D Z k sz a σ (-1) (ex_truckByCoins)) (vx_cwSW 2 hts gL_areTrucks_L_truckByCoins rfl rfl rfl (by decide +kernel) ⟨Nat.le_of_ble_eq_true rfl, Nat.le_of_ble_eq_true rfl⟩) (ft_preM hEL hz hS hP) rfl rfl hl.1 rfl (lv_room (Nat.le_of_ble_eq_true rfl)) dL_areTrucks_22 ⟨Nat.le_of_ble_eq_true rfl, Nat.le_of_ble_eq_true rfl⟩) hS (fun _ _ h => h) (fun _ h => h) (fun z u t H1 locs1 ht hvm hw hB hz1 hk1 hS1 => ?_)
    obtain rfl : z = w_truckByCoins (ft_nr r) (-1) := hw.trans (ft_ev (f := fun q9 => w_truckByCoins (ft_nr q9) (-1)) hq rfl)
    rw [ht] at hB
    have hP := hB
    have hS := hS1
    clear hS1
    generalize H1 = H at hP hS ⊢
    refine W.widen (k := 2) (n := 12) (by omega) (by omega) ?_
    refine lv_sipush (v := (-1000)) hx hb dL_areTrucks_25 (by decide) ?_
    refine lv_icmp_ne (tgt := 35) hx hb dL_areTrucks_28 (by decide) (fun c_28 => ?_) (fun c_28 => ?_)
    · skip
      exact absurd (hJ.a2 hg) c_28
    · skip
      refine lv_iconst (v := 1) hx hb dL_areTrucks_31 (by decide) ?_
      refine lv_goto (tgt := 36) hx hb dL_areTrucks_32 (by decide) ?_
      refine lv_istore (lv' := [(4, .int (1)), (3, .int (0)), (2, .int (0)), (1, .int (0)), (0, .ref (a))]) hx hb dL_areTrucks_36 hl (by decide) rfl (fun ls hl => ?_)
      refine lv_iconst (v := 0) hx hb dL_areTrucks_38 (by decide) ?_
      refine lv_istore (lv' := [(5, .int (0)), (4, .int (1)), (3, .int (0)), (2, .int (0)), (1, .int (0)), (0, .ref (a))]) hx hb dL_areTrucks_39 hl (by decide) rfl (fun ls hl => ?_)
      have hbn_41 : tn (l_truckCount (ft_nr r)) ≤ 6 := hJ.dN hg
      have loop_41 : ∀ (hKx : ∀ (y1_41 : Int32) (y2_41 : Int32) (y5_41 : Int32) (σ41 : ft_Sg) (i_41 : Nat) (hi_41 : y5_41 = nI i_41) (hm_41 : i_41 ≤ tn (l_truckCount (ft_nr r))) (hx_41 : i_41 = tn (l_truckCount (ft_nr r))) (hj_41 : J (jc0 + 0) σ41) (hq_41 : σ41.1 0 = r) (hp_41 : ft_zm σ σ41 ∧ y1_41 = ft_up (fun y => p_coins (ft_nr r) y) 0 i_41 ∧ y2_41 = ft_up (fun y => p_queueLength (ft_nr r) y) 0 i_41) (H : Heap) (locs : List Loc) (hP : ft_LW D k Z sz a σ41 H) (hS : va_S (ft_AL sz) s.heap H locs) (ls : Array Slot) (hl : lv_has ls 10 [(0, .ref (a)), (1, .int (y1_41)), (2, .int (y2_41)), (3, .int (0)), (4, .int (1)), (5, .int (y5_41))]), W p l e (headSpec wsL_areTrucks ({ frames := 11, cells := 1208, slots := 27984, locals := 248 })).room s m ([.ref a] : List Value).toArray below meth c H locs (2 + 1200) (12 + 27936) (MQ below (ft_QR J D k Z sz a (jc0 + 0) (fun z u => z = 1 ∧ ft_zm σ u)) ([.ref a] : List Value).toArray s 1208 27984 (ft_AL sz)) (F0 m 298 ls [])) (n_41 : Nat), ∀ (y1_41 : Int32) (y2_41 : Int32) (y5_41 : Int32) (σ41 : ft_Sg) (i_41 : Nat) (hi_41 : y5_41 = nI i_41) (hm_41 : i_41 ≤ tn (l_truckCount (ft_nr r))) (hn_41 : tn (l_truckCount (ft_nr r)) < n_41 + i_41) (hj_41 : J (jc0 + 0) σ41) (hq_41 : σ41.1 0 = r) (hp_41 : ft_zm σ σ41 ∧ y1_41 = ft_up (fun y => p_coins (ft_nr r) y) 0 i_41 ∧ y2_41 = ft_up (fun y => p_queueLength (ft_nr r) y) 0 i_41) (H : Heap) (locs : List Loc) (hP : ft_LW D k Z sz a σ41 H) (hS : va_S (ft_AL sz) s.heap H locs) (ls : Array Slot) (hl : lv_has ls 10 [(0, .ref (a)), (1, .int (y1_41)), (2, .int (y2_41)), (3, .int (0)), (4, .int (1)), (5, .int (y5_41))]), W p l e (headSpec wsL_areTrucks ({ frames := 11, cells := 1208, slots := 27984, locals := 248 })).room s m ([.ref a] : List Value).toArray below meth c H locs (2 + 200 * i_41) (12 + 4656 * i_41) (MQ below (ft_QR J D k Z sz a (jc0 + 0) (fun z u => z = 1 ∧ ft_zm σ u)) ([.ref a] : List Value).toArray s 1208 27984 (ft_AL sz)) (F0 m 41 ls []) := by
        intro hKx n_41
        induction n_41 with
        | zero => intro y1_41 y2_41 y5_41 σ41 i_41 hi_41 hm_41 hn_41; exact absurd hn_41 (by omega)
        | succ n ih_41 =>
          intro y1_41 y2_41 y5_41 σ41 i_41 hi_41 hm_41 hn_41 hj_41 hq_41 hp_41 H locs hP hS ls hl
          have hm5_41 : i_41 ≤ 6 := Nat.le_trans hm_41 hbn_41
          refine lv_iload hx hb dL_areTrucks_41 (lv_at hl 4 rfl) ?_
          refine lv_if_eq (tgt := 298) hx hb dL_areTrucks_43 (by decide) (fun c_43 => ?_) (fun c_43 => ?_)
          · skip
            first | exact absurd c_43 (by decide) | exact absurd (by decide) c_43
          · skip
            refine lv_iload hx hb dL_areTrucks_46 (lv_at hl 5 rfl) ?_
            refine lv_aload_n hx hb dL_areTrucks_48 rfl (lv_at hl 0 rfl) ?_
            refine vp_callSi (va_Run.run (va_runV (As := []) (rest := [.int (y5_41)]) ⟨hx, hb, hml, hown, hts⟩ (cl_truckCount l D Z k sz a σ41) (cwV 0 hts gL_areTrucks_X7_truckCount rfl rfl rfl (by decide +kernel) ⟨Nat.le_of_ble_eq_true rfl, Nat.le_of_ble_eq_true rfl⟩) (ft_preL hE hz hS hP) rfl rfl hl.1 rfl (lv_room (Nat.le_of_ble_eq_true rfl)) dL_areTrucks_49 ⟨(show 2 + 200 * i_41 + 0 ≤ 1208 by omega), (show 12 + 4656 * i_41 + 0 ≤ 27984 by omega)⟩)) (fun z hz9 => ?_)
            replace hz9 : z = l_truckCount (ft_nr r) := hz9.trans (ft_ev (f := fun q9 => l_truckCount (ft_nr q9)) hq_41 rfl)
            subst hz9
            refine lv_icmp_ge (tgt := 298) hx hb dL_areTrucks_52 (by decide) (fun c_52 => ?_) (fun c_52 => ?_)
            · skip
              refine W.widen (k := 2 + 1200) (n := 12 + 27936) (by omega) (by omega) ?_
              exact hKx y1_41 y2_41 y5_41 σ41 i_41 hi_41 hm_41 (ft_exi hi_41 hm_41 c_52) hj_41 hq_41 hp_41 _ _ hP hS ls (lv_sub hl [0, 1, 2, 3, 4, 5] rfl)
            · skip
              have hlt_41 := ft_step hi_41 hm_41 c_52
              have hl5_41 : i_41 + 1 ≤ 6 := Nat.le_trans hlt_41 hbn_41
              refine lv_iconst (v := 0) hx hb dL_areTrucks_55 (by decide) ?_
              refine lv_istore (lv' := [(6, .int (0)), (0, .ref (a)), (1, .int (y1_41)), (2, .int (y2_41)), (3, .int (0)), (4, .int (1)), (5, .int (y5_41))]) hx hb dL_areTrucks_56 hl (by decide) rfl (fun ls hl => ?_)
              refine lv_aload_n hx hb dL_areTrucks_58 rfl (lv_at hl 1 rfl) ?_
              refine lv_iload hx hb dL_areTrucks_59 (lv_at hl 6 rfl) ?_
              refine lv_aload_n hx hb dL_areTrucks_61 rfl (lv_at hl 1 rfl) ?_
              refine vp_callSi (va_Run.run (va_runV (As := []) (rest := [.int (y5_41), .ref (a)]) ⟨hx, hb, hml, hown, hts⟩ (cl_day l D Z k sz a σ41) (cwV 0 hts gL_areTrucks_X7_day rfl rfl rfl (by decide +kernel) ⟨Nat.le_of_ble_eq_true rfl, Nat.le_of_ble_eq_true rfl⟩) (ft_preL hE hz hS hP) rfl rfl hl.1 rfl (lv_room (Nat.le_of_ble_eq_true rfl)) dL_areTrucks_62 ⟨(show 2 + 200 * i_41 + 0 ≤ 1208 by omega), (show 12 + 4656 * i_41 + 0 ≤ 27984 by omega)⟩)) (fun z hz9 => ?_)
              replace hz9 : z = l_day (ft_nr r) := hz9.trans (ft_ev (f := fun q9 => l_day (ft_nr q9)) hq_41 rfl)
              subst hz9
              refine lv_bipush (v := 7) hx hb dL_areTrucks_65 (by decide) ?_
              refine lv_irem hx hb dL_areTrucks_67 (by decide) ?_
              refine va_calli (vx_runSW (As := [.ref (a), .int (y5_41), .int ((l_day (ft_nr r)) - (l_day (ft_nr r)) / 7 * 7)]) (rest := []) ⟨hx, hb, hml, hown, hts⟩ (d_L_pitchOf l hl0 D Z k sz a σ41 y5_41 ((l_day (ft_nr r)) - (l_day (ft_nr r)) / 7 * 7) (ex_pitchOf)) (vx_cwSW 3 hts gL_areTrucks_L_pitchOf rfl rfl rfl (by decide +kernel) ⟨Nat.le_of_ble_eq_true rfl, Nat.le_of_ble_eq_true rfl⟩) (ft_preM hEL hz hS hP) rfl rfl hl.1 rfl (lv_room (Nat.le_of_ble_eq_true rfl)) dL_areTrucks_68 ⟨(show 2 + 200 * i_41 + 3 ≤ 1208 by omega), (show 12 + 4656 * i_41 + 18 ≤ 27984 by omega)⟩) hS (fun _ _ h => h) (fun _ h => h) (fun z u t H1 locs1 ht hvm hw hB hz1 hk1 hS1 => ?_)
              obtain rfl : z = w_pitchOf (ft_nr r) y5_41 ((l_day (ft_nr r)) - (l_day (ft_nr r)) / 7 * 7) := hw.trans (ft_ev (f := fun q9 => w_pitchOf (ft_nr q9) y5_41 ((l_day (ft_nr r)) - (l_day (ft_nr r)) / 7 * 7)) hq_41 rfl)
              rw [ht] at hB
              have hP := hB
              have hS := hS1
              clear hS1
              generalize H1 = H at hP hS ⊢
              refine W.widen (k := 5 + 200 * i_41) (n := 30 + 4656 * i_41) (by omega) (by omega) ?_
              refine lv_istore (lv' := [(7, .int ((w_pitchOf (ft_nr r) y5_41 ((l_day (ft_nr r)) - (l_day (ft_nr r)) / 7 * 7)))), (6, .int (0)), (0, .ref (a)), (1, .int (y1_41)), (2, .int (y2_41)), (3, .int (0)), (4, .int (1)), (5, .int (y5_41))]) hx hb dL_areTrucks_71 hl (by decide) rfl (fun ls hl => ?_)
              refine lv_aload_n hx hb dL_areTrucks_73 rfl (lv_at hl 2 rfl) ?_
              refine lv_iload hx hb dL_areTrucks_74 (lv_at hl 7 rfl) ?_
              refine va_calli (va_runV (As := [.int (y5_41)]) (rest := []) ⟨hx, hb, hml, hown, hts⟩ (ft_noX (z := p_queueLength (ft_nr r) y5_41) (cl_queueLength l hl0 D Z k sz a σ41 y5_41 ) (ft_ev (f := fun q9 => l_queueLength (ft_nr q9) y5_41) hq_41 (ok_queueLength (hJ.dT hg _ i_41 hi_41 hlt_41)))) (cwV 1 hts gL_areTrucks_X7_queueLength rfl rfl rfl (by decide +kernel) ⟨Nat.le_of_ble_eq_true rfl, Nat.le_of_ble_eq_true rfl⟩) (ft_preL hE hz hS hP) rfl rfl hl.1 rfl (lv_room (Nat.le_of_ble_eq_true rfl)) dL_areTrucks_76 ⟨(show 5 + 200 * i_41 + 1 ≤ 1208 by omega), (show 30 + 4656 * i_41 + 6 ≤ 27984 by omega)⟩) hS (fun _ _ h => h) (fun _ h => h) (fun z u t H1 locs1 ht hvm hw hB hz1 hk1 hS1 => ?_)
              obtain rfl : p_queueLength (ft_nr r) y5_41 = z := Eq.symm hw
              rw [ht] at hB
              have hP := hB
              have hS := hS1
              clear hS1
              generalize H1 = H at hP hS ⊢
              refine W.widen (k := 6 + 200 * i_41) (n := 36 + 4656 * i_41) (by omega) (by omega) ?_
              refine lv_istore (lv' := [(8, .int ((p_queueLength (ft_nr r) y5_41))), (7, .int ((w_pitchOf (ft_nr r) y5_41 ((l_day (ft_nr r)) - (l_day (ft_nr r)) / 7 * 7)))), (6, .int (0)), (0, .ref (a)), (1, .int (y1_41)), (2, .int (y2_41)), (3, .int (0)), (4, .int (1)), (5, .int (y5_41))]) hx hb dL_areTrucks_79 hl (by decide) rfl (fun ls hl => ?_)
              refine lv_iconst (v := 0) hx hb dL_areTrucks_81 (by decide) ?_
              refine lv_istore (lv' := [(9, .int (0)), (8, .int ((p_queueLength (ft_nr r) y5_41))), (7, .int ((w_pitchOf (ft_nr r) y5_41 ((l_day (ft_nr r)) - (l_day (ft_nr r)) / 7 * 7)))), (6, .int (0)), (0, .ref (a)), (1, .int (y1_41)), (2, .int (y2_41)), (3, .int (0)), (4, .int (1)), (5, .int (y5_41))]) hx hb dL_areTrucks_82 hl (by decide) rfl (fun ls hl => ?_)
              have hbn_84 : tn (p_queueLength (ft_nr r) y5_41) ≤ 9 := hJ.dQ hg _ i_41 hi_41 hlt_41
              have loop_84 : ∀ (hKx : ∀ (y6_84 : Int32) (y9_84 : Int32) (i_84 : Nat) (hi_84 : y9_84 = nI i_84) (hm_84 : i_84 ≤ tn (p_queueLength (ft_nr r) y5_41)) (hx_84 : i_84 = tn (p_queueLength (ft_nr r) y5_41)) (hv_84 : y6_84 = ft_up (ft_wd r y5_41) 0 i_84) (H : Heap) (locs : List Loc) (hP : ft_LW D k Z sz a σ41 H) (hS : va_S (ft_AL sz) s.heap H locs) (ls : Array Slot) (hl : lv_has ls 10 [(0, .ref (a)), (1, .int (y1_41)), (2, .int (y2_41)), (3, .int (0)), (4, .int (1)), (5, .int (y5_41)), (6, .int (y6_84)), (7, .int ((w_pitchOf (ft_nr r) y5_41 ((l_day (ft_nr r)) - (l_day (ft_nr r)) / 7 * 7)))), (8, .int ((p_queueLength (ft_nr r) y5_41))), (9, .int (y9_84))]), W p l e (headSpec wsL_areTrucks ({ frames := 11, cells := 1208, slots := 27984, locals := 248 })).room s m ([.ref a] : List Value).toArray below meth c H locs (6 + 200 * i_41 + 18) (36 + 4656 * i_41 + 108) (MQ below (ft_QR J D k Z sz a (jc0 + 0) (fun z u => z = 1 ∧ ft_zm σ u)) ([.ref a] : List Value).toArray s 1208 27984 (ft_AL sz)) (F0 m 112 ls [])) (n_84 : Nat), ∀ (y6_84 : Int32) (y9_84 : Int32) (i_84 : Nat) (hi_84 : y9_84 = nI i_84) (hm_84 : i_84 ≤ tn (p_queueLength (ft_nr r) y5_41)) (hn_84 : tn (p_queueLength (ft_nr r) y5_41) < n_84 + i_84) (hv_84 : y6_84 = ft_up (ft_wd r y5_41) 0 i_84) (H : Heap) (locs : List Loc) (hP : ft_LW D k Z sz a σ41 H) (hS : va_S (ft_AL sz) s.heap H locs) (ls : Array Slot) (hl : lv_has ls 10 [(0, .ref (a)), (1, .int (y1_41)), (2, .int (y2_41)), (3, .int (0)), (4, .int (1)), (5, .int (y5_41)), (6, .int (y6_84)), (7, .int ((w_pitchOf (ft_nr r) y5_41 ((l_day (ft_nr r)) - (l_day (ft_nr r)) / 7 * 7)))), (8, .int ((p_queueLength (ft_nr r) y5_41))), (9, .int (y9_84))]), W p l e (headSpec wsL_areTrucks ({ frames := 11, cells := 1208, slots := 27984, locals := 248 })).room s m ([.ref a] : List Value).toArray below meth c H locs (6 + 200 * i_41 + 2 * i_84) (36 + 4656 * i_41 + 12 * i_84) (MQ below (ft_QR J D k Z sz a (jc0 + 0) (fun z u => z = 1 ∧ ft_zm σ u)) ([.ref a] : List Value).toArray s 1208 27984 (ft_AL sz)) (F0 m 84 ls []) := by
                intro hKx n_84
                induction n_84 with
                | zero => intro y6_84 y9_84 i_84 hi_84 hm_84 hn_84; exact absurd hn_84 (by omega)
                | succ n ih_84 =>
                  intro y6_84 y9_84 i_84 hi_84 hm_84 hn_84 hv_84 H locs hP hS ls hl
                  have hm5_84 : i_84 ≤ 9 := Nat.le_trans hm_84 hbn_84
                  refine lv_iload hx hb dL_areTrucks_84 (lv_at hl 9 rfl) ?_
                  refine lv_iload hx hb dL_areTrucks_86 (lv_at hl 8 rfl) ?_
                  refine lv_icmp_ge (tgt := 112) hx hb dL_areTrucks_88 (by decide) (fun c_88 => ?_) (fun c_88 => ?_)
                  · skip
                    refine W.widen (k := 6 + 200 * i_41 + 18) (n := 36 + 4656 * i_41 + 108) (by omega) (by omega) ?_
                    exact hKx y6_84 y9_84 i_84 hi_84 hm_84 (ft_exi hi_84 hm_84 c_88) hv_84 _ _ hP hS ls (lv_sub hl [0, 1, 2, 3, 4, 5, 6, 7, 8, 9] rfl)
                  · skip
                    have hlt_84 := ft_step hi_84 hm_84 c_88
                    have hl5_84 : i_84 + 1 ≤ 9 := Nat.le_trans hlt_84 hbn_84
                    refine lv_iload hx hb dL_areTrucks_91 (lv_at hl 6 rfl) ?_
                    refine lv_aload_n hx hb dL_areTrucks_93 rfl (lv_at hl 0 rfl) ?_
                    refine lv_iload hx hb dL_areTrucks_94 (lv_at hl 5 rfl) ?_
                    refine lv_iload hx hb dL_areTrucks_96 (lv_at hl 9 rfl) ?_
                    refine va_calli (va_runV (As := [.int (y5_41), .int (y9_84)]) (rest := [.int (y6_84)]) ⟨hx, hb, hml, hown, hts⟩ (ft_noX (z := p_wantedDish (ft_nr r) y5_41 y9_84) (cl_wantedDish l hl0 D Z k sz a σ41 y5_41 y9_84 ) (ft_ev (f := fun q9 => l_wantedDish (ft_nr q9) y5_41 y9_84) hq_41 (ok_wantedDish (hJ.dT hg _ i_41 hi_41 hlt_41) (hJ.dW hg _ _ i_41 i_84 hi_41 hlt_41 hi_84 hlt_84)))) (cwV 2 hts gL_areTrucks_X7_wantedDish rfl rfl rfl (by decide +kernel) ⟨Nat.le_of_ble_eq_true rfl, Nat.le_of_ble_eq_true rfl⟩) (ft_preL hE hz hS hP) rfl rfl hl.1 rfl (lv_room (Nat.le_of_ble_eq_true rfl)) dL_areTrucks_98 ⟨(show 6 + 200 * i_41 + 2 * i_84 + 2 ≤ 1208 by omega), (show 36 + 4656 * i_41 + 12 * i_84 + 12 ≤ 27984 by omega)⟩) hS (fun _ _ h => h) (fun _ h => h) (fun z u t H1 locs1 ht hvm hw hB hz1 hk1 hS1 => ?_)
                    obtain rfl : p_wantedDish (ft_nr r) y5_41 y9_84 = z := Eq.symm hw
                    rw [ht] at hB
                    have hP := hB
                    have hS := hS1
                    clear hS1
                    generalize H1 = H at hP hS ⊢
                    refine W.widen (k := 8 + 200 * i_41 + 2 * i_84) (n := 48 + 4656 * i_41 + 12 * i_84) (by omega) (by omega) ?_
                    refine lv_iconst (v := 1) hx hb dL_areTrucks_101 (by decide) ?_
                    refine lv_iadd hx hb dL_areTrucks_102 ?_
                    refine lv_iadd hx hb dL_areTrucks_103 ?_
                    refine lv_istore (lv' := [(6, .int (y6_84 + ((p_wantedDish (ft_nr r) y5_41 y9_84) + 1))), (0, .ref (a)), (1, .int (y1_41)), (2, .int (y2_41)), (3, .int (0)), (4, .int (1)), (5, .int (y5_41)), (7, .int ((w_pitchOf (ft_nr r) y5_41 ((l_day (ft_nr r)) - (l_day (ft_nr r)) / 7 * 7)))), (8, .int ((p_queueLength (ft_nr r) y5_41))), (9, .int (y9_84))]) hx hb dL_areTrucks_104 hl (by decide) rfl (fun ls hl => ?_)
                    refine lv_iinc (v := y9_84 + 1) (lv' := [(9, .int (y9_84 + 1)), (6, .int (y6_84 + ((p_wantedDish (ft_nr r) y5_41 y9_84) + 1))), (0, .ref (a)), (1, .int (y1_41)), (2, .int (y2_41)), (3, .int (0)), (4, .int (1)), (5, .int (y5_41)), (7, .int ((w_pitchOf (ft_nr r) y5_41 ((l_day (ft_nr r)) - (l_day (ft_nr r)) / 7 * 7)))), (8, .int ((p_queueLength (ft_nr r) y5_41)))]) hx hb dL_areTrucks_106 hl (k := 9) rfl rfl (by decide) rfl (fun ls hl => ?_)
                    refine lv_goto (tgt := 84) hx hb dL_areTrucks_109 (by decide) ?_
                    refine W.widen (k := 6 + 200 * i_41 + 2 * (i_84 + 1)) (n := 36 + 4656 * i_41 + 12 * (i_84 + 1)) (by omega) (by omega) ?_
                    exact ih_84 (y6_84 + ((p_wantedDish (ft_nr r) y5_41 y9_84) + 1)) (y9_84 + 1) (i_84 + 1) (by rw [hi_84, nI_1]) hlt_84 (by omega) (by rw [hv_84, hi_84]; rfl) _ _ hP hS ls (lv_sub hl [2, 3, 4, 5, 6, 7, 1, 8, 9, 0] rfl)
              refine W.widen (k := 6 + 200 * i_41 + 2 * 0) (n := 36 + 4656 * i_41 + 12 * 0) (by omega) (by omega) ?_
              refine loop_84 (fun y6_84 y9_84 i_84 hi_84 hm_84 hx_84 hv_84 H locs hP hS ls hl => ?_) (tn (p_queueLength (ft_nr r) y5_41) + 1) 0 0 0 rfl (Nat.zero_le _) (by omega) (rfl) _ _ hP hS ls (lv_sub hl [4, 5, 6, 7, 8, 9, 3, 2, 1, 0] rfl)
              have hm5_84 : i_84 ≤ 9 := Nat.le_trans hm_84 hbn_84
              refine W.widen (k := 24 + 200 * i_41) (n := 144 + 4656 * i_41) (by omega) (by omega) ?_
              refine lv_aload_n hx hb dL_areTrucks_112 rfl (lv_at hl 0 rfl) ?_
              refine lv_iload hx hb dL_areTrucks_113 (lv_at hl 5 rfl) ?_
              refine va_calli (va_runV (As := [.int (y5_41)]) (rest := []) ⟨hx, hb, hml, hown, hts⟩ (ft_noX (z := p_minutesLeft (ft_nr r) y5_41) (cl_minutesLeft l hl0 D Z k sz a σ41 y5_41 ) (ft_ev (f := fun q9 => l_minutesLeft (ft_nr q9) y5_41) hq_41 (ok_minutesLeft (hJ.dT hg _ i_41 hi_41 hlt_41)))) (cwV 1 hts gL_areTrucks_X7_minutesLeft rfl rfl rfl (by decide +kernel) ⟨Nat.le_of_ble_eq_true rfl, Nat.le_of_ble_eq_true rfl⟩) (ft_preL hE hz hS hP) rfl rfl hl.1 rfl (lv_room (Nat.le_of_ble_eq_true rfl)) dL_areTrucks_115 ⟨(show 24 + 200 * i_41 + 1 ≤ 1208 by omega), (show 144 + 4656 * i_41 + 6 ≤ 27984 by omega)⟩) hS (fun _ _ h => h) (fun _ h => h) (fun z u t H1 locs1 ht hvm hw hB hz1 hk1 hS1 => ?_)
              obtain rfl : p_minutesLeft (ft_nr r) y5_41 = z := Eq.symm hw
              rw [ht] at hB
              have hP := hB
              have hS := hS1
              clear hS1
              generalize H1 = H at hP hS ⊢
              refine W.widen (k := 25 + 200 * i_41) (n := 150 + 4656 * i_41) (by omega) (by omega) ?_
              refine lv_if_ne (tgt := 125) hx hb dL_areTrucks_118 (by decide) (fun c_118 => ?_) (fun c_118 => ?_)
              · skip
                refine lv_aload_n hx hb dL_areTrucks_125 rfl (lv_at hl 0 rfl) ?_
                refine lv_iload hx hb dL_areTrucks_126 (lv_at hl 5 rfl) ?_
                refine lv_iconst (v := 0) hx hb dL_areTrucks_128 (by decide) ?_
                refine va_calli (va_runV (As := [.int (y5_41), .int (0)]) (rest := []) ⟨hx, hb, hml, hown, hts⟩ (ft_noX (z := p_wantedDish (ft_nr r) y5_41 0) (cl_wantedDish l hl0 D Z k sz a σ41 y5_41 0 ) (ft_ev (f := fun q9 => l_wantedDish (ft_nr q9) y5_41 0) hq_41 (ok_wantedDish (hJ.dT hg _ i_41 hi_41 hlt_41) (hJ.a3 hg _ i_41 hi_41 hlt_41 c_118)))) (cwV 2 hts gL_areTrucks_X7_wantedDish rfl rfl rfl (by decide +kernel) ⟨Nat.le_of_ble_eq_true rfl, Nat.le_of_ble_eq_true rfl⟩) (ft_preL hE hz hS hP) rfl rfl hl.1 rfl (lv_room (Nat.le_of_ble_eq_true rfl)) dL_areTrucks_129 ⟨(show 25 + 200 * i_41 + 2 ≤ 1208 by omega), (show 150 + 4656 * i_41 + 12 ≤ 27984 by omega)⟩) hS (fun _ _ h => h) (fun _ h => h) (fun z u t H1 locs1 ht hvm hw hB hz1 hk1 hS1 => ?_)
                obtain rfl : p_wantedDish (ft_nr r) y5_41 0 = z := Eq.symm hw
                rw [ht] at hB
                have hP := hB
                have hS := hS1
                clear hS1
                generalize H1 = H at hP hS ⊢
                refine W.widen (k := 27 + 200 * i_41) (n := 162 + 4656 * i_41) (by omega) (by omega) ?_
                refine lv_iconst (v := 1) hx hb dL_areTrucks_132 (by decide) ?_
                refine lv_iadd hx hb dL_areTrucks_133 ?_
                refine lv_aload_n hx hb dL_areTrucks_134 rfl (lv_at hl 0 rfl) ?_
                refine lv_iload hx hb dL_areTrucks_135 (lv_at hl 5 rfl) ?_
                refine va_calli (va_runV (As := [.int (y5_41)]) (rest := [.int ((p_wantedDish (ft_nr r) y5_41 0) + 1)]) ⟨hx, hb, hml, hown, hts⟩ (ft_noX (z := p_minutesLeft (ft_nr r) y5_41) (cl_minutesLeft l hl0 D Z k sz a σ41 y5_41 ) (ft_ev (f := fun q9 => l_minutesLeft (ft_nr q9) y5_41) hq_41 (ok_minutesLeft (hJ.dT hg _ i_41 hi_41 hlt_41)))) (cwV 1 hts gL_areTrucks_X7_minutesLeft rfl rfl rfl (by decide +kernel) ⟨Nat.le_of_ble_eq_true rfl, Nat.le_of_ble_eq_true rfl⟩) (ft_preL hE hz hS hP) rfl rfl hl.1 rfl (lv_room (Nat.le_of_ble_eq_true rfl)) dL_areTrucks_137 ⟨(show 27 + 200 * i_41 + 1 ≤ 1208 by omega), (show 162 + 4656 * i_41 + 6 ≤ 27984 by omega)⟩) hS (fun _ _ h => h) (fun _ h => h) (fun z u t H1 locs1 ht hvm hw hB hz1 hk1 hS1 => ?_)
                obtain rfl : p_minutesLeft (ft_nr r) y5_41 = z := Eq.symm hw
                rw [ht] at hB
                have hP := hB
                have hS := hS1
                clear hS1
                generalize H1 = H at hP hS ⊢
                refine W.widen (k := 28 + 200 * i_41) (n := 168 + 4656 * i_41) (by omega) (by omega) ?_
                refine lv_isub hx hb dL_areTrucks_140 ?_
                refine lv_istore (lv' := [(9, .int (((p_wantedDish (ft_nr r) y5_41 0) + 1) - (p_minutesLeft (ft_nr r) y5_41))), (0, .ref (a)), (1, .int (y1_41)), (2, .int (y2_41)), (3, .int (0)), (4, .int (1)), (5, .int (y5_41)), (6, .int (y6_84)), (7, .int ((w_pitchOf (ft_nr r) y5_41 ((l_day (ft_nr r)) - (l_day (ft_nr r)) / 7 * 7)))), (8, .int ((p_queueLength (ft_nr r) y5_41)))]) hx hb dL_areTrucks_141 hl (by decide) rfl (fun ls hl => ?_)
                refine lv_iload_n hx hb dL_areTrucks_143 rfl (lv_at hl 2 rfl) ?_
                refine lv_aload_n hx hb dL_areTrucks_144 rfl (lv_at hl 1 rfl) ?_
                refine lv_iload hx hb dL_areTrucks_145 (lv_at hl 6 rfl) ?_
                refine va_calli (va_runV (As := [.int (y5_41)]) (rest := [.int (y1_41)]) ⟨hx, hb, hml, hown, hts⟩ (ft_noX (z := p_coins (ft_nr r) y5_41) (cl_coins l hl0 D Z k sz a σ41 y5_41 ) (ft_ev (f := fun q9 => l_coins (ft_nr q9) y5_41) hq_41 (ok_coins (hJ.dT hg _ i_41 hi_41 hlt_41)))) (cwV 1 hts gL_areTrucks_X7_coins rfl rfl rfl (by decide +kernel) ⟨Nat.le_of_ble_eq_true rfl, Nat.le_of_ble_eq_true rfl⟩) (ft_preL hE hz hS hP) rfl rfl hl.1 rfl (lv_room (Nat.le_of_ble_eq_true rfl)) dL_areTrucks_147 ⟨(show 28 + 200 * i_41 + 1 ≤ 1208 by omega), (show 168 + 4656 * i_41 + 6 ≤ 27984 by omega)⟩) hS (fun _ _ h => h) (fun _ h => h) (fun z u t H1 locs1 ht hvm hw hB hz1 hk1 hS1 => ?_)
                obtain rfl : p_coins (ft_nr r) y5_41 = z := Eq.symm hw
                rw [ht] at hB
                have hP := hB
                have hS := hS1
                clear hS1
                generalize H1 = H at hP hS ⊢
                refine W.widen (k := 29 + 200 * i_41) (n := 174 + 4656 * i_41) (by omega) (by omega) ?_
                refine lv_iadd hx hb dL_areTrucks_150 ?_
                refine lv_istore_n (lv' := [(1, .int (y1_41 + (p_coins (ft_nr r) y5_41))), (9, .int (((p_wantedDish (ft_nr r) y5_41 0) + 1) - (p_minutesLeft (ft_nr r) y5_41))), (0, .ref (a)), (2, .int (y2_41)), (3, .int (0)), (4, .int (1)), (5, .int (y5_41)), (6, .int (y6_84)), (7, .int ((w_pitchOf (ft_nr r) y5_41 ((l_day (ft_nr r)) - (l_day (ft_nr r)) / 7 * 7)))), (8, .int ((p_queueLength (ft_nr r) y5_41)))]) hx hb dL_areTrucks_151 rfl hl (by decide) rfl (fun ls hl => ?_)
                refine lv_iload_n hx hb dL_areTrucks_152 rfl (lv_at hl 3 rfl) ?_
                refine lv_iload hx hb dL_areTrucks_153 (lv_at hl 9 rfl) ?_
                refine lv_iadd hx hb dL_areTrucks_155 ?_
                refine lv_istore_n (lv' := [(2, .int (y2_41 + (p_queueLength (ft_nr r) y5_41))), (1, .int (y1_41 + (p_coins (ft_nr r) y5_41))), (9, .int (((p_wantedDish (ft_nr r) y5_41 0) + 1) - (p_minutesLeft (ft_nr r) y5_41))), (0, .ref (a)), (3, .int (0)), (4, .int (1)), (5, .int (y5_41)), (6, .int (y6_84)), (7, .int ((w_pitchOf (ft_nr r) y5_41 ((l_day (ft_nr r)) - (l_day (ft_nr r)) / 7 * 7)))), (8, .int ((p_queueLength (ft_nr r) y5_41)))]) hx hb dL_areTrucks_156 rfl hl (by decide) rfl (fun ls hl => ?_)
                refine lv_aload_n hx hb dL_areTrucks_157 rfl (lv_at hl 3 rfl) ?_
                refine lv_iload hx hb dL_areTrucks_158 (lv_at hl 6 rfl) ?_
                refine va_calli (va_runV (As := [.int (y5_41)]) (rest := []) ⟨hx, hb, hml, hown, hts⟩ (ft_noX (z := p_queueTime (ft_nr r) y5_41) (cl_queueTime l hl0 D Z k sz a σ41 y5_41 ) (ft_ev (f := fun q9 => l_queueTime (ft_nr q9) y5_41) hq_41 (ok_queueTime (hJ.dT hg _ i_41 hi_41 hlt_41)))) (cwV 1 hts gL_areTrucks_X7_queueTime rfl rfl rfl (by decide +kernel) ⟨Nat.le_of_ble_eq_true rfl, Nat.le_of_ble_eq_true rfl⟩) (ft_preL hE hz hS hP) rfl rfl hl.1 rfl (lv_room (Nat.le_of_ble_eq_true rfl)) dL_areTrucks_160 ⟨(show 29 + 200 * i_41 + 1 ≤ 1208 by omega), (show 174 + 4656 * i_41 + 6 ≤ 27984 by omega)⟩) hS (fun _ _ h => h) (fun _ h => h) (fun z u t H1 locs1 ht hvm hw hB hz1 hk1 hS1 => ?_)
                obtain rfl : p_queueTime (ft_nr r) y5_41 = z := Eq.symm hw
                rw [ht] at hB
                have hP := hB
                have hS := hS1
                clear hS1
                generalize H1 = H at hP hS ⊢
                refine W.widen (k := 30 + 200 * i_41) (n := 180 + 4656 * i_41) (by omega) (by omega) ?_
                refine lv_iload hx hb dL_areTrucks_163 (lv_at hl 7 rfl) ?_
                refine lv_iload hx hb dL_areTrucks_165 (lv_at hl 2 rfl) ?_
                refine lv_isub hx hb dL_areTrucks_167 ?_
                refine lv_icmp_ne (tgt := 289) hx hb dL_areTrucks_168 (by decide) (fun c_168 => ?_) (fun c_168 => ?_)
                · skip
                  exact absurd ((by rw [hv_84, hx_84]; exact hJ.a5 hg _ i_41 hi_41 hlt_41 c_118)) c_168
                · skip
                  refine lv_iload hx hb dL_areTrucks_171 (lv_at hl 2 rfl) ?_
                  refine lv_if_lt (tgt := 289) hx hb dL_areTrucks_173 (by decide) (fun c_173 => ?_) (fun c_173 => ?_)
                  · skip
                    exact absurd c_173 (hJ.a6 hg _ i_41 hi_41 hlt_41 c_118)
                  · skip
                    refine lv_iload hx hb dL_areTrucks_176 (lv_at hl 9 rfl) ?_
                    refine lv_bipush (v := 9) hx hb dL_areTrucks_178 (by decide) ?_
                    refine lv_icmp_gt (tgt := 289) hx hb dL_areTrucks_180 (by decide) (fun c_180 => ?_) (fun c_180 => ?_)
                    · skip
                      exact absurd c_180 (hJ.a7 hg _ i_41 hi_41 hlt_41)
                    · skip
                      refine lv_aload_n hx hb dL_areTrucks_183 rfl (lv_at hl 3 rfl) ?_
                      refine lv_iload hx hb dL_areTrucks_184 (lv_at hl 6 rfl) ?_
                      refine va_calli (va_runV (As := [.int (y5_41)]) (rest := []) ⟨hx, hb, hml, hown, hts⟩ (ft_noX (z := p_isOpen (ft_nr r) y5_41) (cl_isOpen l hl0 D Z k sz a σ41 y5_41 ) (ft_ev (f := fun q9 => l_isOpen (ft_nr q9) y5_41) hq_41 (ok_isOpen (hJ.dT hg _ i_41 hi_41 hlt_41)))) (cwV 1 hts gL_areTrucks_X7_isOpen rfl rfl rfl (by decide +kernel) ⟨Nat.le_of_ble_eq_true rfl, Nat.le_of_ble_eq_true rfl⟩) (ft_preL hE hz hS hP) rfl rfl hl.1 rfl (lv_room (Nat.le_of_ble_eq_true rfl)) dL_areTrucks_186 ⟨(show 30 + 200 * i_41 + 1 ≤ 1208 by omega), (show 180 + 4656 * i_41 + 6 ≤ 27984 by omega)⟩) hS (fun _ _ h => h) (fun _ h => h) (fun z u t H1 locs1 ht hvm hw hB hz1 hk1 hS1 => ?_)
                      obtain rfl : p_isOpen (ft_nr r) y5_41 = z := Eq.symm hw
                      rw [ht] at hB
                      have hP := hB
                      have hS := hS1
                      clear hS1
                      generalize H1 = H at hP hS ⊢
                      refine W.widen (k := 31 + 200 * i_41) (n := 186 + 4656 * i_41) (by omega) (by omega) ?_
                      refine lv_iload hx hb dL_areTrucks_189 (lv_at hl 8 rfl) ?_
                      refine lv_sipush (v := (-1000)) hx hb dL_areTrucks_191 (by decide) ?_
                      refine lv_icmp_eq (tgt := 201) hx hb dL_areTrucks_194 (by decide) (fun c_194 => ?_) (fun c_194 => ?_)
                      · skip
                        refine lv_iconst (v := 0) hx hb dL_areTrucks_201 (by decide) ?_
                        refine lv_icmp_ne (tgt := 289) hx hb dL_areTrucks_202 (by decide) (fun c_202 => ?_) (fun c_202 => ?_)
                        · skip
                          exact absurd ((hJ.a8 hg _ i_41 hi_41 hlt_41 c_194).1) c_202
                        · skip
                          refine lv_aload_n hx hb dL_areTrucks_205 rfl (lv_at hl 3 rfl) ?_
                          refine lv_iload hx hb dL_areTrucks_206 (lv_at hl 6 rfl) ?_
                          refine va_calli (va_runV (As := [.int (y5_41)]) (rest := []) ⟨hx, hb, hml, hown, hts⟩ (ft_noX (z := p_isOpen (ft_nr r) y5_41) (cl_isOpen l hl0 D Z k sz a σ41 y5_41 ) (ft_ev (f := fun q9 => l_isOpen (ft_nr q9) y5_41) hq_41 (ok_isOpen (hJ.dT hg _ i_41 hi_41 hlt_41)))) (cwV 1 hts gL_areTrucks_X7_isOpen rfl rfl rfl (by decide +kernel) ⟨Nat.le_of_ble_eq_true rfl, Nat.le_of_ble_eq_true rfl⟩) (ft_preL hE hz hS hP) rfl rfl hl.1 rfl (lv_room (Nat.le_of_ble_eq_true rfl)) dL_areTrucks_208 ⟨(show 31 + 200 * i_41 + 1 ≤ 1208 by omega), (show 186 + 4656 * i_41 + 6 ≤ 27984 by omega)⟩) hS (fun _ _ h => h) (fun _ h => h) (fun z u t H1 locs1 ht hvm hw hB hz1 hk1 hS1 => ?_)
                          obtain rfl : p_isOpen (ft_nr r) y5_41 = z := Eq.symm hw
                          rw [ht] at hB
                          have hP := hB
                          have hS := hS1
                          clear hS1
                          generalize H1 = H at hP hS ⊢
                          refine W.widen (k := 32 + 200 * i_41) (n := 192 + 4656 * i_41) (by omega) (by omega) ?_
                          refine lv_if_ne (tgt := 228) hx hb dL_areTrucks_211 (by decide) (fun c_211 => ?_) (fun c_211 => ?_)
                          · skip
                            exact absurd ((hJ.a8 hg _ i_41 hi_41 hlt_41 c_194).1) c_211
                          · skip
                            refine lv_iload hx hb dL_areTrucks_214 (lv_at hl 9 rfl) ?_
                            refine lv_if_ne (tgt := 289) hx hb dL_areTrucks_216 (by decide) (fun c_216 => ?_) (fun c_216 => ?_)
                            · skip
                              exact absurd ((hJ.a8 hg _ i_41 hi_41 hlt_41 c_194).2.1) c_216
                            · skip
                              refine lv_aload_n hx hb dL_areTrucks_219 rfl (lv_at hl 3 rfl) ?_
                              refine lv_iload hx hb dL_areTrucks_220 (lv_at hl 6 rfl) ?_
                              refine va_calli (va_runV (As := [.int (y5_41)]) (rest := []) ⟨hx, hb, hml, hown, hts⟩ (ft_noX (z := p_minutesLeft (ft_nr r) y5_41) (cl_minutesLeft l hl0 D Z k sz a σ41 y5_41 ) (ft_ev (f := fun q9 => l_minutesLeft (ft_nr q9) y5_41) hq_41 (ok_minutesLeft (hJ.dT hg _ i_41 hi_41 hlt_41)))) (cwV 1 hts gL_areTrucks_X7_minutesLeft rfl rfl rfl (by decide +kernel) ⟨Nat.le_of_ble_eq_true rfl, Nat.le_of_ble_eq_true rfl⟩) (ft_preL hE hz hS hP) rfl rfl hl.1 rfl (lv_room (Nat.le_of_ble_eq_true rfl)) dL_areTrucks_222 ⟨(show 32 + 200 * i_41 + 1 ≤ 1208 by omega), (show 192 + 4656 * i_41 + 6 ≤ 27984 by omega)⟩) hS (fun _ _ h => h) (fun _ h => h) (fun z u t H1 locs1 ht hvm hw hB hz1 hk1 hS1 => ?_)
                              obtain rfl : p_minutesLeft (ft_nr r) y5_41 = z := Eq.symm hw
                              rw [ht] at hB
                              have hP := hB
                              have hS := hS1
                              clear hS1
                              generalize H1 = H at hP hS ⊢
                              refine W.widen (k := 33 + 200 * i_41) (n := 198 + 4656 * i_41) (by omega) (by omega) ?_
                              refine lv_if_ne (tgt := 289) hx hb dL_areTrucks_225 (by decide) (fun c_225 => ?_) (fun c_225 => ?_)
                              · skip
                                exact absurd ((hJ.a8 hg _ i_41 hi_41 hlt_41 c_194).2.2) c_225
                              · skip
                                refine lv_aload_n hx hb dL_areTrucks_228 rfl (lv_at hl 3 rfl) ?_
                                refine lv_iload hx hb dL_areTrucks_229 (lv_at hl 6 rfl) ?_
                                refine lv_iload hx hb dL_areTrucks_231 (lv_at hl 9 rfl) ?_
                                refine va_calli (vx_runSW (As := [.ref (a), .int (y5_41), .int ((p_queueLength (ft_nr r) y5_41))]) (rest := []) ⟨hx, hb, hml, hown, hts⟩ (d_L_wantedDish l hl0 D Z k sz a σ41 y5_41 (p_queueLength (ft_nr r) y5_41) (ex_wantedDish)) (vx_cwSW 3 hts gL_areTrucks_L_wantedDish rfl rfl rfl (by decide +kernel) ⟨Nat.le_of_ble_eq_true rfl, Nat.le_of_ble_eq_true rfl⟩) (ft_preM hEL hz hS hP) rfl rfl hl.1 rfl (lv_room (Nat.le_of_ble_eq_true rfl)) dL_areTrucks_233 ⟨(show 33 + 200 * i_41 + 2 ≤ 1208 by omega), (show 198 + 4656 * i_41 + 12 ≤ 27984 by omega)⟩) hS (fun _ _ h => h) (fun _ h => h) (fun z u t H1 locs1 ht hvm hw hB hz1 hk1 hS1 => ?_)
                                obtain rfl : z = w_wantedDish (ft_nr r) y5_41 (p_queueLength (ft_nr r) y5_41) := hw.trans (ft_ev (f := fun q9 => w_wantedDish (ft_nr q9) y5_41 (p_queueLength (ft_nr r) y5_41)) hq_41 rfl)
                                rw [ht] at hB
                                have hP := hB
                                have hS := hS1
                                clear hS1
                                generalize H1 = H at hP hS ⊢
                                refine W.widen (k := 35 + 200 * i_41) (n := 210 + 4656 * i_41) (by omega) (by omega) ?_
                                refine lv_sipush (v := (-1000)) hx hb dL_areTrucks_236 (by decide) ?_
                                refine lv_icmp_ne (tgt := 289) hx hb dL_areTrucks_239 (by decide) (fun c_239 => ?_) (fun c_239 => ?_)
                                · skip
                                  exact absurd (hJ.a10 hg _ i_41 hi_41 hlt_41) c_239
                                · skip
                                  refine lv_aload_n hx hb dL_areTrucks_242 rfl (lv_at hl 3 rfl) ?_
                                  refine lv_iload hx hb dL_areTrucks_243 (lv_at hl 6 rfl) ?_
                                  refine va_calli (vx_runSW (As := [.ref (a), .int (y5_41)]) (rest := []) ⟨hx, hb, hml, hown, hts⟩ (d_L_firstFreeDay l hl0 D Z k sz a σ41 y5_41 (ex_firstFreeDay)) (vx_cwSW 2 hts gL_areTrucks_L_firstFreeDay rfl rfl rfl (by decide +kernel) ⟨Nat.le_of_ble_eq_true rfl, Nat.le_of_ble_eq_true rfl⟩) (ft_preM hEL hz hS hP) rfl rfl hl.1 rfl (lv_room (Nat.le_of_ble_eq_true rfl)) dL_areTrucks_245 ⟨(show 35 + 200 * i_41 + 2 ≤ 1208 by omega), (show 210 + 4656 * i_41 + 12 ≤ 27984 by omega)⟩) hS (fun _ _ h => h) (fun _ h => h) (fun z u t H1 locs1 ht hvm hw hB hz1 hk1 hS1 => ?_)
                                  obtain rfl : z = w_firstFreeDay (ft_nr r) y5_41 := hw.trans (ft_ev (f := fun q9 => w_firstFreeDay (ft_nr q9) y5_41) hq_41 rfl)
                                  rw [ht] at hB
                                  have hP := hB
                                  have hS := hS1
                                  clear hS1
                                  generalize H1 = H at hP hS ⊢
                                  refine W.widen (k := 37 + 200 * i_41) (n := 222 + 4656 * i_41) (by omega) (by omega) ?_
                                  refine lv_aload_n hx hb dL_areTrucks_248 rfl (lv_at hl 3 rfl) ?_
                                  refine lv_iload hx hb dL_areTrucks_249 (lv_at hl 6 rfl) ?_
                                  refine va_calli (va_runS (As := [.ref (a), .int (y5_41)]) (rest := [.int ((w_firstFreeDay (ft_nr r) y5_41))]) ⟨hx, hb, hml, hown, hts⟩ (c_L_firstOf l hl0 D Z k sz a σ41 r hq_41 y5_41 (hJ.dT hg _ i_41 hi_41 hlt_41)) (va_cwS 2 hts gL_areTrucks_L_firstOf rfl rfl rfl (by decide +kernel) ⟨Nat.le_of_ble_eq_true rfl, Nat.le_of_ble_eq_true rfl⟩) (ft_preM hEL hz hS hP) rfl rfl hl.1 rfl (lv_room (Nat.le_of_ble_eq_true rfl)) dL_areTrucks_251 ⟨(show 37 + 200 * i_41 + 140 ≤ 1208 by omega), (show 222 + 4656 * i_41 + 840 ≤ 27984 by omega)⟩) hS (fun _ _ h => h) (fun _ h => h) (fun z u t H1 locs1 ht hvm hw hB hz1 hk1 hS1 => ?_)
                                  obtain rfl : z = (s_L_firstOf r y5_41) := hw
                                  rw [ht] at hB
                                  have hP := hB
                                  have hS := hS1
                                  clear hS1
                                  generalize H1 = H at hP hS ⊢
                                  refine W.widen (k := 177 + 200 * i_41) (n := 1062 + 4656 * i_41) (by omega) (by omega) ?_
                                  refine lv_icmp_ne (tgt := 289) hx hb dL_areTrucks_254 (by decide) (fun c_254 => ?_) (fun c_254 => ?_)
                                  · skip
                                    exact absurd (hJ.a11 hg _ i_41 hi_41 hlt_41) c_254
                                  · skip
                                    refine lv_aload_n hx hb dL_areTrucks_257 rfl (lv_at hl 3 rfl) ?_
                                    refine lv_iload hx hb dL_areTrucks_258 (lv_at hl 6 rfl) ?_
                                    refine va_calli (va_runV (As := [.int (y5_41)]) (rest := []) ⟨hx, hb, hml, hown, hts⟩ (ft_noXs (z := p_renderTruck σ41 y5_41) (cl_renderTruck l hl0 D Z k sz a σ41 y5_41 (hJ.pm hj_41) (hJ.ok1 hj_41) (hJ.rtH hj_41 (by omega) hq_41 _ i_41 hi_41 hlt_41).1 (hJ.rtH hj_41 (by omega) hq_41 _ i_41 hi_41 hlt_41).2.1 (hJ.rtH hj_41 (by omega) hq_41 _ i_41 hi_41 hlt_41).2.2.1 (hJ.rtH hj_41 (by omega) hq_41 _ i_41 hi_41 hlt_41).2.2.2.1 (hJ.rtH hj_41 (by omega) hq_41 _ i_41 hi_41 hlt_41).2.2.2.2) (hJ.rtv hj_41 (by omega) hq_41 _ i_41 hi_41 hlt_41)) (cwV 1 hts gL_areTrucks_X7_renderTruck rfl rfl rfl (by decide +kernel) ⟨Nat.le_of_ble_eq_true rfl, Nat.le_of_ble_eq_true rfl⟩) (ft_preL hE hz hS hP) rfl rfl hl.1 rfl (lv_room (Nat.le_of_ble_eq_true rfl)) dL_areTrucks_260 ⟨(show 177 + 200 * i_41 + 25 ≤ 1208 by omega), (show 1062 + 4656 * i_41 + 3606 ≤ 27984 by omega)⟩) hS (fun _ _ h => h) (fun _ h => h) (fun z u t H1 locs1 ht hvm hw hB hz1 hk1 hS1 => ?_)
                                    obtain ⟨rfl, rfl⟩ : z = p_renderTruck σ41 y5_41 ∧ u = (l_renderTruck σ41 y5_41).2 := ⟨congrArg Prod.fst hw, congrArg Prod.snd hw⟩
                                    rw [ht] at hB
                                    have hP := hB
                                    have hS := hS1
                                    clear hS1
                                    generalize H1 = H at hP hS ⊢
                                    refine W.widen (k := 202 + 200 * i_41) (n := 4668 + 4656 * i_41) (by omega) (by omega) ?_
                                    have hJ_260_0 : J (jc0 + 0) (l_renderTruck σ41 y5_41).2 := hJ.mono (hJ.k_renderTruck _ hj_41 (by omega)) (by omega)
                                    have hq_260_1 : (l_renderTruck σ41 y5_41).2.1 0 = r := (hJ.r_renderTruck _).trans hq_41
                                    refine lv_bipush (v := 12) hx hb dL_areTrucks_263 (by decide) ?_
                                    refine lv_iload hx hb dL_areTrucks_265 (lv_at hl 8 rfl) ?_
                                    refine lv_sipush (v := (-1000)) hx hb dL_areTrucks_267 (by decide) ?_
                                    refine lv_icmp_ne (tgt := 277) hx hb dL_areTrucks_270 (by decide) (fun c_270 => ?_) (fun c_270 => ?_)
                                    · skip
                                      exact absurd (c_194) c_270
                                    · skip
                                      refine lv_iconst (v := 0) hx hb dL_areTrucks_273 (by decide) ?_
                                      refine lv_goto (tgt := 281) hx hb dL_areTrucks_274 (by decide) ?_
                                      refine lv_iadd hx hb dL_areTrucks_281 ?_
                                      refine lv_icmp_lt (tgt := 289) hx hb dL_areTrucks_282 (by decide) (fun c_282 => ?_) (fun c_282 => ?_)
                                      · skip
                                        exact absurd c_282 (hJ.rt0 hj_41 (by omega) hq_41 _ i_41 hi_41 hlt_41 c_194)
                                      · skip
                                        refine lv_iconst (v := 1) hx hb dL_areTrucks_285 (by decide) ?_
                                        refine lv_goto (tgt := 290) hx hb dL_areTrucks_286 (by decide) ?_
                                        refine lv_istore (lv' := [(4, .int (1)), (2, .int (y2_41 + (p_queueLength (ft_nr r) y5_41))), (1, .int (y1_41 + (p_coins (ft_nr r) y5_41))), (9, .int (((p_wantedDish (ft_nr r) y5_41 0) + 1) - (p_minutesLeft (ft_nr r) y5_41))), (0, .ref (a)), (3, .int (0)), (5, .int (y5_41)), (6, .int (y6_84)), (7, .int ((w_pitchOf (ft_nr r) y5_41 ((l_day (ft_nr r)) - (l_day (ft_nr r)) / 7 * 7)))), (8, .int ((p_queueLength (ft_nr r) y5_41)))]) hx hb dL_areTrucks_290 hl (by decide) rfl (fun ls hl => ?_)
                                        refine lv_iinc (v := y5_41 + 1) (lv' := [(5, .int (y5_41 + 1)), (4, .int (1)), (2, .int (y2_41 + (p_queueLength (ft_nr r) y5_41))), (1, .int (y1_41 + (p_coins (ft_nr r) y5_41))), (9, .int (((p_wantedDish (ft_nr r) y5_41 0) + 1) - (p_minutesLeft (ft_nr r) y5_41))), (0, .ref (a)), (3, .int (0)), (6, .int (y6_84)), (7, .int ((w_pitchOf (ft_nr r) y5_41 ((l_day (ft_nr r)) - (l_day (ft_nr r)) / 7 * 7)))), (8, .int ((p_queueLength (ft_nr r) y5_41)))]) hx hb dL_areTrucks_292 hl (k := 6) rfl rfl (by decide) rfl (fun ls hl => ?_)
                                        refine lv_goto (tgt := 41) hx hb dL_areTrucks_295 (by decide) ?_
                                        refine W.widen (k := 2 + 200 * (i_41 + 1)) (n := 12 + 4656 * (i_41 + 1)) (by omega) (by omega) ?_
                                        exact ih_41 (y1_41 + (p_coins (ft_nr r) y5_41)) (y2_41 + (p_queueLength (ft_nr r) y5_41)) (y5_41 + 1) ((l_renderTruck σ41 y5_41).2) (i_41 + 1) (by rw [hi_41, nI_1]) hlt_41 (by omega) (show J (jc0 + 0) ((l_renderTruck σ41 y5_41).2) from hJ.mono hJ_260_0 (by omega)) hq_260_1 (⟨hp_41.1.tr (hJ.sm_renderTruck _), by rw [hp_41.2.1, hi_41]; rfl, by rw [hp_41.2.2, hi_41]; rfl⟩) _ _ hP hS ls (lv_sub hl [5, 3, 2, 6, 1, 0] rfl)
                      · skip
                        refine lv_iconst (v := 1) hx hb dL_areTrucks_197 (by decide) ?_
                        refine lv_goto (tgt := 202) hx hb dL_areTrucks_198 (by decide) ?_
                        refine lv_icmp_ne (tgt := 289) hx hb dL_areTrucks_202 (by decide) (fun c_202 => ?_) (fun c_202 => ?_)
                        · skip
                          exact absurd (hJ.a9 hg _ i_41 hi_41 hlt_41 c_194) c_202
                        · skip
                          refine lv_aload_n hx hb dL_areTrucks_205 rfl (lv_at hl 3 rfl) ?_
                          refine lv_iload hx hb dL_areTrucks_206 (lv_at hl 6 rfl) ?_
                          refine va_calli (va_runV (As := [.int (y5_41)]) (rest := []) ⟨hx, hb, hml, hown, hts⟩ (ft_noX (z := p_isOpen (ft_nr r) y5_41) (cl_isOpen l hl0 D Z k sz a σ41 y5_41 ) (ft_ev (f := fun q9 => l_isOpen (ft_nr q9) y5_41) hq_41 (ok_isOpen (hJ.dT hg _ i_41 hi_41 hlt_41)))) (cwV 1 hts gL_areTrucks_X7_isOpen rfl rfl rfl (by decide +kernel) ⟨Nat.le_of_ble_eq_true rfl, Nat.le_of_ble_eq_true rfl⟩) (ft_preL hE hz hS hP) rfl rfl hl.1 rfl (lv_room (Nat.le_of_ble_eq_true rfl)) dL_areTrucks_208 ⟨(show 31 + 200 * i_41 + 1 ≤ 1208 by omega), (show 186 + 4656 * i_41 + 6 ≤ 27984 by omega)⟩) hS (fun _ _ h => h) (fun _ h => h) (fun z u t H1 locs1 ht hvm hw hB hz1 hk1 hS1 => ?_)
                          obtain rfl : p_isOpen (ft_nr r) y5_41 = z := Eq.symm hw
                          rw [ht] at hB
                          have hP := hB
                          have hS := hS1
                          clear hS1
                          generalize H1 = H at hP hS ⊢
                          refine W.widen (k := 32 + 200 * i_41) (n := 192 + 4656 * i_41) (by omega) (by omega) ?_
                          refine lv_if_ne (tgt := 228) hx hb dL_areTrucks_211 (by decide) (fun c_211 => ?_) (fun c_211 => ?_)
                          · skip
                            refine lv_aload_n hx hb dL_areTrucks_228 rfl (lv_at hl 3 rfl) ?_
                            refine lv_iload hx hb dL_areTrucks_229 (lv_at hl 6 rfl) ?_
                            refine lv_iload hx hb dL_areTrucks_231 (lv_at hl 9 rfl) ?_
                            refine va_calli (vx_runSW (As := [.ref (a), .int (y5_41), .int ((p_queueLength (ft_nr r) y5_41))]) (rest := []) ⟨hx, hb, hml, hown, hts⟩ (d_L_wantedDish l hl0 D Z k sz a σ41 y5_41 (p_queueLength (ft_nr r) y5_41) (ex_wantedDish)) (vx_cwSW 3 hts gL_areTrucks_L_wantedDish rfl rfl rfl (by decide +kernel) ⟨Nat.le_of_ble_eq_true rfl, Nat.le_of_ble_eq_true rfl⟩) (ft_preM hEL hz hS hP) rfl rfl hl.1 rfl (lv_room (Nat.le_of_ble_eq_true rfl)) dL_areTrucks_233 ⟨(show 32 + 200 * i_41 + 2 ≤ 1208 by omega), (show 192 + 4656 * i_41 + 12 ≤ 27984 by omega)⟩) hS (fun _ _ h => h) (fun _ h => h) (fun z u t H1 locs1 ht hvm hw hB hz1 hk1 hS1 => ?_)
                            obtain rfl : z = w_wantedDish (ft_nr r) y5_41 (p_queueLength (ft_nr r) y5_41) := hw.trans (ft_ev (f := fun q9 => w_wantedDish (ft_nr q9) y5_41 (p_queueLength (ft_nr r) y5_41)) hq_41 rfl)
                            rw [ht] at hB
                            have hP := hB
                            have hS := hS1
                            clear hS1
                            generalize H1 = H at hP hS ⊢
                            refine W.widen (k := 34 + 200 * i_41) (n := 204 + 4656 * i_41) (by omega) (by omega) ?_
                            refine lv_sipush (v := (-1000)) hx hb dL_areTrucks_236 (by decide) ?_
                            refine lv_icmp_ne (tgt := 289) hx hb dL_areTrucks_239 (by decide) (fun c_239 => ?_) (fun c_239 => ?_)
                            · skip
                              exact absurd (hJ.a10 hg _ i_41 hi_41 hlt_41) c_239
                            · skip
                              refine lv_aload_n hx hb dL_areTrucks_242 rfl (lv_at hl 3 rfl) ?_
                              refine lv_iload hx hb dL_areTrucks_243 (lv_at hl 6 rfl) ?_
                              refine va_calli (vx_runSW (As := [.ref (a), .int (y5_41)]) (rest := []) ⟨hx, hb, hml, hown, hts⟩ (d_L_firstFreeDay l hl0 D Z k sz a σ41 y5_41 (ex_firstFreeDay)) (vx_cwSW 2 hts gL_areTrucks_L_firstFreeDay rfl rfl rfl (by decide +kernel) ⟨Nat.le_of_ble_eq_true rfl, Nat.le_of_ble_eq_true rfl⟩) (ft_preM hEL hz hS hP) rfl rfl hl.1 rfl (lv_room (Nat.le_of_ble_eq_true rfl)) dL_areTrucks_245 ⟨(show 34 + 200 * i_41 + 2 ≤ 1208 by omega), (show 204 + 4656 * i_41 + 12 ≤ 27984 by omega)⟩) hS (fun _ _ h => h) (fun _ h => h) (fun z u t H1 locs1 ht hvm hw hB hz1 hk1 hS1 => ?_)
                              obtain rfl : z = w_firstFreeDay (ft_nr r) y5_41 := hw.trans (ft_ev (f := fun q9 => w_firstFreeDay (ft_nr q9) y5_41) hq_41 rfl)
                              rw [ht] at hB
                              have hP := hB
                              have hS := hS1
                              clear hS1
                              generalize H1 = H at hP hS ⊢
                              refine W.widen (k := 36 + 200 * i_41) (n := 216 + 4656 * i_41) (by omega) (by omega) ?_
                              refine lv_aload_n hx hb dL_areTrucks_248 rfl (lv_at hl 3 rfl) ?_
                              refine lv_iload hx hb dL_areTrucks_249 (lv_at hl 6 rfl) ?_
                              refine va_calli (va_runS (As := [.ref (a), .int (y5_41)]) (rest := [.int ((w_firstFreeDay (ft_nr r) y5_41))]) ⟨hx, hb, hml, hown, hts⟩ (c_L_firstOf l hl0 D Z k sz a σ41 r hq_41 y5_41 (hJ.dT hg _ i_41 hi_41 hlt_41)) (va_cwS 2 hts gL_areTrucks_L_firstOf rfl rfl rfl (by decide +kernel) ⟨Nat.le_of_ble_eq_true rfl, Nat.le_of_ble_eq_true rfl⟩) (ft_preM hEL hz hS hP) rfl rfl hl.1 rfl (lv_room (Nat.le_of_ble_eq_true rfl)) dL_areTrucks_251 ⟨(show 36 + 200 * i_41 + 140 ≤ 1208 by omega), (show 216 + 4656 * i_41 + 840 ≤ 27984 by omega)⟩) hS (fun _ _ h => h) (fun _ h => h) (fun z u t H1 locs1 ht hvm hw hB hz1 hk1 hS1 => ?_)
                              obtain rfl : z = (s_L_firstOf r y5_41) := hw
                              rw [ht] at hB
                              have hP := hB
                              have hS := hS1
                              clear hS1
                              generalize H1 = H at hP hS ⊢
                              refine W.widen (k := 176 + 200 * i_41) (n := 1056 + 4656 * i_41) (by omega) (by omega) ?_
                              refine lv_icmp_ne (tgt := 289) hx hb dL_areTrucks_254 (by decide) (fun c_254 => ?_) (fun c_254 => ?_)
                              · skip
                                exact absurd (hJ.a11 hg _ i_41 hi_41 hlt_41) c_254
                              · skip
                                refine lv_aload_n hx hb dL_areTrucks_257 rfl (lv_at hl 3 rfl) ?_
                                refine lv_iload hx hb dL_areTrucks_258 (lv_at hl 6 rfl) ?_
                                refine va_calli (va_runV (As := [.int (y5_41)]) (rest := []) ⟨hx, hb, hml, hown, hts⟩ (ft_noXs (z := p_renderTruck σ41 y5_41) (cl_renderTruck l hl0 D Z k sz a σ41 y5_41 (hJ.pm hj_41) (hJ.ok1 hj_41) (hJ.rtH hj_41 (by omega) hq_41 _ i_41 hi_41 hlt_41).1 (hJ.rtH hj_41 (by omega) hq_41 _ i_41 hi_41 hlt_41).2.1 (hJ.rtH hj_41 (by omega) hq_41 _ i_41 hi_41 hlt_41).2.2.1 (hJ.rtH hj_41 (by omega) hq_41 _ i_41 hi_41 hlt_41).2.2.2.1 (hJ.rtH hj_41 (by omega) hq_41 _ i_41 hi_41 hlt_41).2.2.2.2) (hJ.rtv hj_41 (by omega) hq_41 _ i_41 hi_41 hlt_41)) (cwV 1 hts gL_areTrucks_X7_renderTruck rfl rfl rfl (by decide +kernel) ⟨Nat.le_of_ble_eq_true rfl, Nat.le_of_ble_eq_true rfl⟩) (ft_preL hE hz hS hP) rfl rfl hl.1 rfl (lv_room (Nat.le_of_ble_eq_true rfl)) dL_areTrucks_260 ⟨(show 176 + 200 * i_41 + 25 ≤ 1208 by omega), (show 1056 + 4656 * i_41 + 3606 ≤ 27984 by omega)⟩) hS (fun _ _ h => h) (fun _ h => h) (fun z u t H1 locs1 ht hvm hw hB hz1 hk1 hS1 => ?_)
                                obtain ⟨rfl, rfl⟩ : z = p_renderTruck σ41 y5_41 ∧ u = (l_renderTruck σ41 y5_41).2 := ⟨congrArg Prod.fst hw, congrArg Prod.snd hw⟩
                                rw [ht] at hB
                                have hP := hB
                                have hS := hS1
                                clear hS1
                                generalize H1 = H at hP hS ⊢
                                refine W.widen (k := 201 + 200 * i_41) (n := 4662 + 4656 * i_41) (by omega) (by omega) ?_
                                have hJ_260_1 : J (jc0 + 0) (l_renderTruck σ41 y5_41).2 := hJ.mono (hJ.k_renderTruck _ hj_41 (by omega)) (by omega)
                                have hq_260_2 : (l_renderTruck σ41 y5_41).2.1 0 = r := (hJ.r_renderTruck _).trans hq_41
                                refine lv_bipush (v := 12) hx hb dL_areTrucks_263 (by decide) ?_
                                refine lv_iload hx hb dL_areTrucks_265 (lv_at hl 8 rfl) ?_
                                refine lv_sipush (v := (-1000)) hx hb dL_areTrucks_267 (by decide) ?_
                                refine lv_icmp_ne (tgt := 277) hx hb dL_areTrucks_270 (by decide) (fun c_270 => ?_) (fun c_270 => ?_)
                                · skip
                                  refine lv_iconst (v := 2) hx hb dL_areTrucks_277 (by decide) ?_
                                  refine lv_iload hx hb dL_areTrucks_278 (lv_at hl 9 rfl) ?_
                                  refine lv_iadd hx hb dL_areTrucks_280 ?_
                                  refine lv_iadd hx hb dL_areTrucks_281 ?_
                                  refine lv_icmp_lt (tgt := 289) hx hb dL_areTrucks_282 (by decide) (fun c_282 => ?_) (fun c_282 => ?_)
                                  · skip
                                    exact absurd c_282 (hJ.rt1 hj_41 (by omega) hq_41 _ i_41 hi_41 hlt_41 c_194)
                                  · skip
                                    refine lv_iconst (v := 1) hx hb dL_areTrucks_285 (by decide) ?_
                                    refine lv_goto (tgt := 290) hx hb dL_areTrucks_286 (by decide) ?_
                                    refine lv_istore (lv' := [(4, .int (1)), (2, .int (y2_41 + (p_queueLength (ft_nr r) y5_41))), (1, .int (y1_41 + (p_coins (ft_nr r) y5_41))), (9, .int (((p_wantedDish (ft_nr r) y5_41 0) + 1) - (p_minutesLeft (ft_nr r) y5_41))), (0, .ref (a)), (3, .int (0)), (5, .int (y5_41)), (6, .int (y6_84)), (7, .int ((w_pitchOf (ft_nr r) y5_41 ((l_day (ft_nr r)) - (l_day (ft_nr r)) / 7 * 7)))), (8, .int ((p_queueLength (ft_nr r) y5_41)))]) hx hb dL_areTrucks_290 hl (by decide) rfl (fun ls hl => ?_)
                                    refine lv_iinc (v := y5_41 + 1) (lv' := [(5, .int (y5_41 + 1)), (4, .int (1)), (2, .int (y2_41 + (p_queueLength (ft_nr r) y5_41))), (1, .int (y1_41 + (p_coins (ft_nr r) y5_41))), (9, .int (((p_wantedDish (ft_nr r) y5_41 0) + 1) - (p_minutesLeft (ft_nr r) y5_41))), (0, .ref (a)), (3, .int (0)), (6, .int (y6_84)), (7, .int ((w_pitchOf (ft_nr r) y5_41 ((l_day (ft_nr r)) - (l_day (ft_nr r)) / 7 * 7)))), (8, .int ((p_queueLength (ft_nr r) y5_41)))]) hx hb dL_areTrucks_292 hl (k := 6) rfl rfl (by decide) rfl (fun ls hl => ?_)
                                    refine lv_goto (tgt := 41) hx hb dL_areTrucks_295 (by decide) ?_
                                    refine W.widen (k := 2 + 200 * (i_41 + 1)) (n := 12 + 4656 * (i_41 + 1)) (by omega) (by omega) ?_
                                    exact ih_41 (y1_41 + (p_coins (ft_nr r) y5_41)) (y2_41 + (p_queueLength (ft_nr r) y5_41)) (y5_41 + 1) ((l_renderTruck σ41 y5_41).2) (i_41 + 1) (by rw [hi_41, nI_1]) hlt_41 (by omega) (show J (jc0 + 0) ((l_renderTruck σ41 y5_41).2) from hJ.mono hJ_260_1 (by omega)) hq_260_2 (⟨hp_41.1.tr (hJ.sm_renderTruck _), by rw [hp_41.2.1, hi_41]; rfl, by rw [hp_41.2.2, hi_41]; rfl⟩) _ _ hP hS ls (lv_sub hl [5, 3, 2, 6, 1, 0] rfl)
                                · skip
                                  exact absurd c_270 (c_194)
                          · skip
                            exact absurd c_211 ((by rw [hJ.a9 hg _ i_41 hi_41 hlt_41 c_194]; decide))
              · skip
                refine lv_iconst (v := 0) hx hb dL_areTrucks_121 (by decide) ?_
                refine lv_goto (tgt := 141) hx hb dL_areTrucks_122 (by decide) ?_
                refine lv_istore (lv' := [(9, .int (0)), (0, .ref (a)), (1, .int (y1_41)), (2, .int (y2_41)), (3, .int (0)), (4, .int (1)), (5, .int (y5_41)), (6, .int (y6_84)), (7, .int ((w_pitchOf (ft_nr r) y5_41 ((l_day (ft_nr r)) - (l_day (ft_nr r)) / 7 * 7)))), (8, .int ((p_queueLength (ft_nr r) y5_41)))]) hx hb dL_areTrucks_141 hl (by decide) rfl (fun ls hl => ?_)
                refine lv_iload_n hx hb dL_areTrucks_143 rfl (lv_at hl 2 rfl) ?_
                refine lv_aload_n hx hb dL_areTrucks_144 rfl (lv_at hl 1 rfl) ?_
                refine lv_iload hx hb dL_areTrucks_145 (lv_at hl 6 rfl) ?_
                refine va_calli (va_runV (As := [.int (y5_41)]) (rest := [.int (y1_41)]) ⟨hx, hb, hml, hown, hts⟩ (ft_noX (z := p_coins (ft_nr r) y5_41) (cl_coins l hl0 D Z k sz a σ41 y5_41 ) (ft_ev (f := fun q9 => l_coins (ft_nr q9) y5_41) hq_41 (ok_coins (hJ.dT hg _ i_41 hi_41 hlt_41)))) (cwV 1 hts gL_areTrucks_X7_coins rfl rfl rfl (by decide +kernel) ⟨Nat.le_of_ble_eq_true rfl, Nat.le_of_ble_eq_true rfl⟩) (ft_preL hE hz hS hP) rfl rfl hl.1 rfl (lv_room (Nat.le_of_ble_eq_true rfl)) dL_areTrucks_147 ⟨(show 25 + 200 * i_41 + 1 ≤ 1208 by omega), (show 150 + 4656 * i_41 + 6 ≤ 27984 by omega)⟩) hS (fun _ _ h => h) (fun _ h => h) (fun z u t H1 locs1 ht hvm hw hB hz1 hk1 hS1 => ?_)
                obtain rfl : p_coins (ft_nr r) y5_41 = z := Eq.symm hw
                rw [ht] at hB
                have hP := hB
                have hS := hS1
                clear hS1
                generalize H1 = H at hP hS ⊢
                refine W.widen (k := 26 + 200 * i_41) (n := 156 + 4656 * i_41) (by omega) (by omega) ?_
                refine lv_iadd hx hb dL_areTrucks_150 ?_
                refine lv_istore_n (lv' := [(1, .int (y1_41 + (p_coins (ft_nr r) y5_41))), (9, .int (0)), (0, .ref (a)), (2, .int (y2_41)), (3, .int (0)), (4, .int (1)), (5, .int (y5_41)), (6, .int (y6_84)), (7, .int ((w_pitchOf (ft_nr r) y5_41 ((l_day (ft_nr r)) - (l_day (ft_nr r)) / 7 * 7)))), (8, .int ((p_queueLength (ft_nr r) y5_41)))]) hx hb dL_areTrucks_151 rfl hl (by decide) rfl (fun ls hl => ?_)
                refine lv_iload_n hx hb dL_areTrucks_152 rfl (lv_at hl 3 rfl) ?_
                refine lv_iload hx hb dL_areTrucks_153 (lv_at hl 9 rfl) ?_
                refine lv_iadd hx hb dL_areTrucks_155 ?_
                refine lv_istore_n (lv' := [(2, .int (y2_41 + (p_queueLength (ft_nr r) y5_41))), (1, .int (y1_41 + (p_coins (ft_nr r) y5_41))), (9, .int (0)), (0, .ref (a)), (3, .int (0)), (4, .int (1)), (5, .int (y5_41)), (6, .int (y6_84)), (7, .int ((w_pitchOf (ft_nr r) y5_41 ((l_day (ft_nr r)) - (l_day (ft_nr r)) / 7 * 7)))), (8, .int ((p_queueLength (ft_nr r) y5_41)))]) hx hb dL_areTrucks_156 rfl hl (by decide) rfl (fun ls hl => ?_)
                refine lv_aload_n hx hb dL_areTrucks_157 rfl (lv_at hl 3 rfl) ?_
                refine lv_iload hx hb dL_areTrucks_158 (lv_at hl 6 rfl) ?_
                refine va_calli (va_runV (As := [.int (y5_41)]) (rest := []) ⟨hx, hb, hml, hown, hts⟩ (ft_noX (z := p_queueTime (ft_nr r) y5_41) (cl_queueTime l hl0 D Z k sz a σ41 y5_41 ) (ft_ev (f := fun q9 => l_queueTime (ft_nr q9) y5_41) hq_41 (ok_queueTime (hJ.dT hg _ i_41 hi_41 hlt_41)))) (cwV 1 hts gL_areTrucks_X7_queueTime rfl rfl rfl (by decide +kernel) ⟨Nat.le_of_ble_eq_true rfl, Nat.le_of_ble_eq_true rfl⟩) (ft_preL hE hz hS hP) rfl rfl hl.1 rfl (lv_room (Nat.le_of_ble_eq_true rfl)) dL_areTrucks_160 ⟨(show 26 + 200 * i_41 + 1 ≤ 1208 by omega), (show 156 + 4656 * i_41 + 6 ≤ 27984 by omega)⟩) hS (fun _ _ h => h) (fun _ h => h) (fun z u t H1 locs1 ht hvm hw hB hz1 hk1 hS1 => ?_)
                obtain rfl : p_queueTime (ft_nr r) y5_41 = z := Eq.symm hw
                rw [ht] at hB
                have hP := hB
                have hS := hS1
                clear hS1
                generalize H1 = H at hP hS ⊢
                refine W.widen (k := 27 + 200 * i_41) (n := 162 + 4656 * i_41) (by omega) (by omega) ?_
                refine lv_iload hx hb dL_areTrucks_163 (lv_at hl 7 rfl) ?_
                refine lv_iload hx hb dL_areTrucks_165 (lv_at hl 2 rfl) ?_
                refine lv_isub hx hb dL_areTrucks_167 ?_
                refine lv_icmp_ne (tgt := 289) hx hb dL_areTrucks_168 (by decide) (fun c_168 => ?_) (fun c_168 => ?_)
                · skip
                  exact absurd ((by rw [hv_84, hx_84]; exact hJ.a4 hg _ i_41 hi_41 hlt_41 c_118)) c_168
                · skip
                  refine lv_iload hx hb dL_areTrucks_171 (lv_at hl 2 rfl) ?_
                  refine lv_if_lt (tgt := 289) hx hb dL_areTrucks_173 (by decide) (fun c_173 => ?_) (fun c_173 => ?_)
                  · skip
                    first | exact absurd c_173 (by decide) | exact absurd (by decide) c_173
                  · skip
                    refine lv_iload hx hb dL_areTrucks_176 (lv_at hl 9 rfl) ?_
                    refine lv_bipush (v := 9) hx hb dL_areTrucks_178 (by decide) ?_
                    refine lv_icmp_gt (tgt := 289) hx hb dL_areTrucks_180 (by decide) (fun c_180 => ?_) (fun c_180 => ?_)
                    · skip
                      exact absurd c_180 (hJ.a7 hg _ i_41 hi_41 hlt_41)
                    · skip
                      refine lv_aload_n hx hb dL_areTrucks_183 rfl (lv_at hl 3 rfl) ?_
                      refine lv_iload hx hb dL_areTrucks_184 (lv_at hl 6 rfl) ?_
                      refine va_calli (va_runV (As := [.int (y5_41)]) (rest := []) ⟨hx, hb, hml, hown, hts⟩ (ft_noX (z := p_isOpen (ft_nr r) y5_41) (cl_isOpen l hl0 D Z k sz a σ41 y5_41 ) (ft_ev (f := fun q9 => l_isOpen (ft_nr q9) y5_41) hq_41 (ok_isOpen (hJ.dT hg _ i_41 hi_41 hlt_41)))) (cwV 1 hts gL_areTrucks_X7_isOpen rfl rfl rfl (by decide +kernel) ⟨Nat.le_of_ble_eq_true rfl, Nat.le_of_ble_eq_true rfl⟩) (ft_preL hE hz hS hP) rfl rfl hl.1 rfl (lv_room (Nat.le_of_ble_eq_true rfl)) dL_areTrucks_186 ⟨(show 27 + 200 * i_41 + 1 ≤ 1208 by omega), (show 162 + 4656 * i_41 + 6 ≤ 27984 by omega)⟩) hS (fun _ _ h => h) (fun _ h => h) (fun z u t H1 locs1 ht hvm hw hB hz1 hk1 hS1 => ?_)
                      obtain rfl : p_isOpen (ft_nr r) y5_41 = z := Eq.symm hw
                      rw [ht] at hB
                      have hP := hB
                      have hS := hS1
                      clear hS1
                      generalize H1 = H at hP hS ⊢
                      refine W.widen (k := 28 + 200 * i_41) (n := 168 + 4656 * i_41) (by omega) (by omega) ?_
                      refine lv_iload hx hb dL_areTrucks_189 (lv_at hl 8 rfl) ?_
                      refine lv_sipush (v := (-1000)) hx hb dL_areTrucks_191 (by decide) ?_
                      refine lv_icmp_eq (tgt := 201) hx hb dL_areTrucks_194 (by decide) (fun c_194 => ?_) (fun c_194 => ?_)
                      · skip
                        refine lv_iconst (v := 0) hx hb dL_areTrucks_201 (by decide) ?_
                        refine lv_icmp_ne (tgt := 289) hx hb dL_areTrucks_202 (by decide) (fun c_202 => ?_) (fun c_202 => ?_)
                        · skip
                          exact absurd ((hJ.a8 hg _ i_41 hi_41 hlt_41 c_194).1) c_202
                        · skip
                          refine lv_aload_n hx hb dL_areTrucks_205 rfl (lv_at hl 3 rfl) ?_
                          refine lv_iload hx hb dL_areTrucks_206 (lv_at hl 6 rfl) ?_
                          refine va_calli (va_runV (As := [.int (y5_41)]) (rest := []) ⟨hx, hb, hml, hown, hts⟩ (ft_noX (z := p_isOpen (ft_nr r) y5_41) (cl_isOpen l hl0 D Z k sz a σ41 y5_41 ) (ft_ev (f := fun q9 => l_isOpen (ft_nr q9) y5_41) hq_41 (ok_isOpen (hJ.dT hg _ i_41 hi_41 hlt_41)))) (cwV 1 hts gL_areTrucks_X7_isOpen rfl rfl rfl (by decide +kernel) ⟨Nat.le_of_ble_eq_true rfl, Nat.le_of_ble_eq_true rfl⟩) (ft_preL hE hz hS hP) rfl rfl hl.1 rfl (lv_room (Nat.le_of_ble_eq_true rfl)) dL_areTrucks_208 ⟨(show 28 + 200 * i_41 + 1 ≤ 1208 by omega), (show 168 + 4656 * i_41 + 6 ≤ 27984 by omega)⟩) hS (fun _ _ h => h) (fun _ h => h) (fun z u t H1 locs1 ht hvm hw hB hz1 hk1 hS1 => ?_)
                          obtain rfl : p_isOpen (ft_nr r) y5_41 = z := Eq.symm hw
                          rw [ht] at hB
                          have hP := hB
                          have hS := hS1
                          clear hS1
                          generalize H1 = H at hP hS ⊢
                          refine W.widen (k := 29 + 200 * i_41) (n := 174 + 4656 * i_41) (by omega) (by omega) ?_
                          refine lv_if_ne (tgt := 228) hx hb dL_areTrucks_211 (by decide) (fun c_211 => ?_) (fun c_211 => ?_)
                          · skip
                            exact absurd ((hJ.a8 hg _ i_41 hi_41 hlt_41 c_194).1) c_211
                          · skip
                            refine lv_iload hx hb dL_areTrucks_214 (lv_at hl 9 rfl) ?_
                            refine lv_if_ne (tgt := 289) hx hb dL_areTrucks_216 (by decide) (fun c_216 => ?_) (fun c_216 => ?_)
                            · skip
                              exact absurd ((hJ.a8 hg _ i_41 hi_41 hlt_41 c_194).2.1) c_216
                            · skip
                              refine lv_aload_n hx hb dL_areTrucks_219 rfl (lv_at hl 3 rfl) ?_
                              refine lv_iload hx hb dL_areTrucks_220 (lv_at hl 6 rfl) ?_
                              refine va_calli (va_runV (As := [.int (y5_41)]) (rest := []) ⟨hx, hb, hml, hown, hts⟩ (ft_noX (z := p_minutesLeft (ft_nr r) y5_41) (cl_minutesLeft l hl0 D Z k sz a σ41 y5_41 ) (ft_ev (f := fun q9 => l_minutesLeft (ft_nr q9) y5_41) hq_41 (ok_minutesLeft (hJ.dT hg _ i_41 hi_41 hlt_41)))) (cwV 1 hts gL_areTrucks_X7_minutesLeft rfl rfl rfl (by decide +kernel) ⟨Nat.le_of_ble_eq_true rfl, Nat.le_of_ble_eq_true rfl⟩) (ft_preL hE hz hS hP) rfl rfl hl.1 rfl (lv_room (Nat.le_of_ble_eq_true rfl)) dL_areTrucks_222 ⟨(show 29 + 200 * i_41 + 1 ≤ 1208 by omega), (show 174 + 4656 * i_41 + 6 ≤ 27984 by omega)⟩) hS (fun _ _ h => h) (fun _ h => h) (fun z u t H1 locs1 ht hvm hw hB hz1 hk1 hS1 => ?_)
                              obtain rfl : p_minutesLeft (ft_nr r) y5_41 = z := Eq.symm hw
                              rw [ht] at hB
                              have hP := hB
                              have hS := hS1
                              clear hS1
                              generalize H1 = H at hP hS ⊢
                              refine W.widen (k := 30 + 200 * i_41) (n := 180 + 4656 * i_41) (by omega) (by omega) ?_
                              refine lv_if_ne (tgt := 289) hx hb dL_areTrucks_225 (by decide) (fun c_225 => ?_) (fun c_225 => ?_)
                              · skip
                                exact absurd ((hJ.a8 hg _ i_41 hi_41 hlt_41 c_194).2.2) c_225
                              · skip
                                refine lv_aload_n hx hb dL_areTrucks_228 rfl (lv_at hl 3 rfl) ?_
                                refine lv_iload hx hb dL_areTrucks_229 (lv_at hl 6 rfl) ?_
                                refine lv_iload hx hb dL_areTrucks_231 (lv_at hl 9 rfl) ?_
                                refine va_calli (vx_runSW (As := [.ref (a), .int (y5_41), .int ((p_queueLength (ft_nr r) y5_41))]) (rest := []) ⟨hx, hb, hml, hown, hts⟩ (d_L_wantedDish l hl0 D Z k sz a σ41 y5_41 (p_queueLength (ft_nr r) y5_41) (ex_wantedDish)) (vx_cwSW 3 hts gL_areTrucks_L_wantedDish rfl rfl rfl (by decide +kernel) ⟨Nat.le_of_ble_eq_true rfl, Nat.le_of_ble_eq_true rfl⟩) (ft_preM hEL hz hS hP) rfl rfl hl.1 rfl (lv_room (Nat.le_of_ble_eq_true rfl)) dL_areTrucks_233 ⟨(show 30 + 200 * i_41 + 2 ≤ 1208 by omega), (show 180 + 4656 * i_41 + 12 ≤ 27984 by omega)⟩) hS (fun _ _ h => h) (fun _ h => h) (fun z u t H1 locs1 ht hvm hw hB hz1 hk1 hS1 => ?_)
                                obtain rfl : z = w_wantedDish (ft_nr r) y5_41 (p_queueLength (ft_nr r) y5_41) := hw.trans (ft_ev (f := fun q9 => w_wantedDish (ft_nr q9) y5_41 (p_queueLength (ft_nr r) y5_41)) hq_41 rfl)
                                rw [ht] at hB
                                have hP := hB
                                have hS := hS1
                                clear hS1
                                generalize H1 = H at hP hS ⊢
                                refine W.widen (k := 32 + 200 * i_41) (n := 192 + 4656 * i_41) (by omega) (by omega) ?_
                                refine lv_sipush (v := (-1000)) hx hb dL_areTrucks_236 (by decide) ?_
                                refine lv_icmp_ne (tgt := 289) hx hb dL_areTrucks_239 (by decide) (fun c_239 => ?_) (fun c_239 => ?_)
                                · skip
                                  exact absurd (hJ.a10 hg _ i_41 hi_41 hlt_41) c_239
                                · skip
                                  refine lv_aload_n hx hb dL_areTrucks_242 rfl (lv_at hl 3 rfl) ?_
                                  refine lv_iload hx hb dL_areTrucks_243 (lv_at hl 6 rfl) ?_
                                  refine va_calli (vx_runSW (As := [.ref (a), .int (y5_41)]) (rest := []) ⟨hx, hb, hml, hown, hts⟩ (d_L_firstFreeDay l hl0 D Z k sz a σ41 y5_41 (ex_firstFreeDay)) (vx_cwSW 2 hts gL_areTrucks_L_firstFreeDay rfl rfl rfl (by decide +kernel) ⟨Nat.le_of_ble_eq_true rfl, Nat.le_of_ble_eq_true rfl⟩) (ft_preM hEL hz hS hP) rfl rfl hl.1 rfl (lv_room (Nat.le_of_ble_eq_true rfl)) dL_areTrucks_245 ⟨(show 32 + 200 * i_41 + 2 ≤ 1208 by omega), (show 192 + 4656 * i_41 + 12 ≤ 27984 by omega)⟩) hS (fun _ _ h => h) (fun _ h => h) (fun z u t H1 locs1 ht hvm hw hB hz1 hk1 hS1 => ?_)
                                  obtain rfl : z = w_firstFreeDay (ft_nr r) y5_41 := hw.trans (ft_ev (f := fun q9 => w_firstFreeDay (ft_nr q9) y5_41) hq_41 rfl)
                                  rw [ht] at hB
                                  have hP := hB
                                  have hS := hS1
                                  clear hS1
                                  generalize H1 = H at hP hS ⊢
                                  refine W.widen (k := 34 + 200 * i_41) (n := 204 + 4656 * i_41) (by omega) (by omega) ?_
                                  refine lv_aload_n hx hb dL_areTrucks_248 rfl (lv_at hl 3 rfl) ?_
                                  refine lv_iload hx hb dL_areTrucks_249 (lv_at hl 6 rfl) ?_
                                  refine va_calli (va_runS (As := [.ref (a), .int (y5_41)]) (rest := [.int ((w_firstFreeDay (ft_nr r) y5_41))]) ⟨hx, hb, hml, hown, hts⟩ (c_L_firstOf l hl0 D Z k sz a σ41 r hq_41 y5_41 (hJ.dT hg _ i_41 hi_41 hlt_41)) (va_cwS 2 hts gL_areTrucks_L_firstOf rfl rfl rfl (by decide +kernel) ⟨Nat.le_of_ble_eq_true rfl, Nat.le_of_ble_eq_true rfl⟩) (ft_preM hEL hz hS hP) rfl rfl hl.1 rfl (lv_room (Nat.le_of_ble_eq_true rfl)) dL_areTrucks_251 ⟨(show 34 + 200 * i_41 + 140 ≤ 1208 by omega), (show 204 + 4656 * i_41 + 840 ≤ 27984 by omega)⟩) hS (fun _ _ h => h) (fun _ h => h) (fun z u t H1 locs1 ht hvm hw hB hz1 hk1 hS1 => ?_)
                                  obtain rfl : z = (s_L_firstOf r y5_41) := hw
                                  rw [ht] at hB
                                  have hP := hB
                                  have hS := hS1
                                  clear hS1
                                  generalize H1 = H at hP hS ⊢
                                  refine W.widen (k := 174 + 200 * i_41) (n := 1044 + 4656 * i_41) (by omega) (by omega) ?_
                                  refine lv_icmp_ne (tgt := 289) hx hb dL_areTrucks_254 (by decide) (fun c_254 => ?_) (fun c_254 => ?_)
                                  · skip
                                    exact absurd (hJ.a11 hg _ i_41 hi_41 hlt_41) c_254
                                  · skip
                                    refine lv_aload_n hx hb dL_areTrucks_257 rfl (lv_at hl 3 rfl) ?_
                                    refine lv_iload hx hb dL_areTrucks_258 (lv_at hl 6 rfl) ?_
                                    refine va_calli (va_runV (As := [.int (y5_41)]) (rest := []) ⟨hx, hb, hml, hown, hts⟩ (ft_noXs (z := p_renderTruck σ41 y5_41) (cl_renderTruck l hl0 D Z k sz a σ41 y5_41 (hJ.pm hj_41) (hJ.ok1 hj_41) (hJ.rtH hj_41 (by omega) hq_41 _ i_41 hi_41 hlt_41).1 (hJ.rtH hj_41 (by omega) hq_41 _ i_41 hi_41 hlt_41).2.1 (hJ.rtH hj_41 (by omega) hq_41 _ i_41 hi_41 hlt_41).2.2.1 (hJ.rtH hj_41 (by omega) hq_41 _ i_41 hi_41 hlt_41).2.2.2.1 (hJ.rtH hj_41 (by omega) hq_41 _ i_41 hi_41 hlt_41).2.2.2.2) (hJ.rtv hj_41 (by omega) hq_41 _ i_41 hi_41 hlt_41)) (cwV 1 hts gL_areTrucks_X7_renderTruck rfl rfl rfl (by decide +kernel) ⟨Nat.le_of_ble_eq_true rfl, Nat.le_of_ble_eq_true rfl⟩) (ft_preL hE hz hS hP) rfl rfl hl.1 rfl (lv_room (Nat.le_of_ble_eq_true rfl)) dL_areTrucks_260 ⟨(show 174 + 200 * i_41 + 25 ≤ 1208 by omega), (show 1044 + 4656 * i_41 + 3606 ≤ 27984 by omega)⟩) hS (fun _ _ h => h) (fun _ h => h) (fun z u t H1 locs1 ht hvm hw hB hz1 hk1 hS1 => ?_)
                                    obtain ⟨rfl, rfl⟩ : z = p_renderTruck σ41 y5_41 ∧ u = (l_renderTruck σ41 y5_41).2 := ⟨congrArg Prod.fst hw, congrArg Prod.snd hw⟩
                                    rw [ht] at hB
                                    have hP := hB
                                    have hS := hS1
                                    clear hS1
                                    generalize H1 = H at hP hS ⊢
                                    refine W.widen (k := 199 + 200 * i_41) (n := 4650 + 4656 * i_41) (by omega) (by omega) ?_
                                    have hJ_260_2 : J (jc0 + 0) (l_renderTruck σ41 y5_41).2 := hJ.mono (hJ.k_renderTruck _ hj_41 (by omega)) (by omega)
                                    have hq_260_3 : (l_renderTruck σ41 y5_41).2.1 0 = r := (hJ.r_renderTruck _).trans hq_41
                                    refine lv_bipush (v := 12) hx hb dL_areTrucks_263 (by decide) ?_
                                    refine lv_iload hx hb dL_areTrucks_265 (lv_at hl 8 rfl) ?_
                                    refine lv_sipush (v := (-1000)) hx hb dL_areTrucks_267 (by decide) ?_
                                    refine lv_icmp_ne (tgt := 277) hx hb dL_areTrucks_270 (by decide) (fun c_270 => ?_) (fun c_270 => ?_)
                                    · skip
                                      exact absurd (c_194) c_270
                                    · skip
                                      refine lv_iconst (v := 0) hx hb dL_areTrucks_273 (by decide) ?_
                                      refine lv_goto (tgt := 281) hx hb dL_areTrucks_274 (by decide) ?_
                                      refine lv_iadd hx hb dL_areTrucks_281 ?_
                                      refine lv_icmp_lt (tgt := 289) hx hb dL_areTrucks_282 (by decide) (fun c_282 => ?_) (fun c_282 => ?_)
                                      · skip
                                        exact absurd c_282 (hJ.rt0 hj_41 (by omega) hq_41 _ i_41 hi_41 hlt_41 c_194)
                                      · skip
                                        refine lv_iconst (v := 1) hx hb dL_areTrucks_285 (by decide) ?_
                                        refine lv_goto (tgt := 290) hx hb dL_areTrucks_286 (by decide) ?_
                                        refine lv_istore (lv' := [(4, .int (1)), (2, .int (y2_41 + (p_queueLength (ft_nr r) y5_41))), (1, .int (y1_41 + (p_coins (ft_nr r) y5_41))), (9, .int (0)), (0, .ref (a)), (3, .int (0)), (5, .int (y5_41)), (6, .int (y6_84)), (7, .int ((w_pitchOf (ft_nr r) y5_41 ((l_day (ft_nr r)) - (l_day (ft_nr r)) / 7 * 7)))), (8, .int ((p_queueLength (ft_nr r) y5_41)))]) hx hb dL_areTrucks_290 hl (by decide) rfl (fun ls hl => ?_)
                                        refine lv_iinc (v := y5_41 + 1) (lv' := [(5, .int (y5_41 + 1)), (4, .int (1)), (2, .int (y2_41 + (p_queueLength (ft_nr r) y5_41))), (1, .int (y1_41 + (p_coins (ft_nr r) y5_41))), (9, .int (0)), (0, .ref (a)), (3, .int (0)), (6, .int (y6_84)), (7, .int ((w_pitchOf (ft_nr r) y5_41 ((l_day (ft_nr r)) - (l_day (ft_nr r)) / 7 * 7)))), (8, .int ((p_queueLength (ft_nr r) y5_41)))]) hx hb dL_areTrucks_292 hl (k := 6) rfl rfl (by decide) rfl (fun ls hl => ?_)
                                        refine lv_goto (tgt := 41) hx hb dL_areTrucks_295 (by decide) ?_
                                        refine W.widen (k := 2 + 200 * (i_41 + 1)) (n := 12 + 4656 * (i_41 + 1)) (by omega) (by omega) ?_
                                        exact ih_41 (y1_41 + (p_coins (ft_nr r) y5_41)) (y2_41 + (p_queueLength (ft_nr r) y5_41)) (y5_41 + 1) ((l_renderTruck σ41 y5_41).2) (i_41 + 1) (by rw [hi_41, nI_1]) hlt_41 (by omega) (show J (jc0 + 0) ((l_renderTruck σ41 y5_41).2) from hJ.mono hJ_260_2 (by omega)) hq_260_3 (⟨hp_41.1.tr (hJ.sm_renderTruck _), by rw [hp_41.2.1, hi_41]; rfl, by rw [hp_41.2.2, hi_41]; rfl⟩) _ _ hP hS ls (lv_sub hl [5, 3, 2, 6, 1, 0] rfl)
                      · skip
                        refine lv_iconst (v := 1) hx hb dL_areTrucks_197 (by decide) ?_
                        refine lv_goto (tgt := 202) hx hb dL_areTrucks_198 (by decide) ?_
                        refine lv_icmp_ne (tgt := 289) hx hb dL_areTrucks_202 (by decide) (fun c_202 => ?_) (fun c_202 => ?_)
                        · skip
                          exact absurd (hJ.a9 hg _ i_41 hi_41 hlt_41 c_194) c_202
                        · skip
                          refine lv_aload_n hx hb dL_areTrucks_205 rfl (lv_at hl 3 rfl) ?_
                          refine lv_iload hx hb dL_areTrucks_206 (lv_at hl 6 rfl) ?_
                          refine va_calli (va_runV (As := [.int (y5_41)]) (rest := []) ⟨hx, hb, hml, hown, hts⟩ (ft_noX (z := p_isOpen (ft_nr r) y5_41) (cl_isOpen l hl0 D Z k sz a σ41 y5_41 ) (ft_ev (f := fun q9 => l_isOpen (ft_nr q9) y5_41) hq_41 (ok_isOpen (hJ.dT hg _ i_41 hi_41 hlt_41)))) (cwV 1 hts gL_areTrucks_X7_isOpen rfl rfl rfl (by decide +kernel) ⟨Nat.le_of_ble_eq_true rfl, Nat.le_of_ble_eq_true rfl⟩) (ft_preL hE hz hS hP) rfl rfl hl.1 rfl (lv_room (Nat.le_of_ble_eq_true rfl)) dL_areTrucks_208 ⟨(show 28 + 200 * i_41 + 1 ≤ 1208 by omega), (show 168 + 4656 * i_41 + 6 ≤ 27984 by omega)⟩) hS (fun _ _ h => h) (fun _ h => h) (fun z u t H1 locs1 ht hvm hw hB hz1 hk1 hS1 => ?_)
                          obtain rfl : p_isOpen (ft_nr r) y5_41 = z := Eq.symm hw
                          rw [ht] at hB
                          have hP := hB
                          have hS := hS1
                          clear hS1
                          generalize H1 = H at hP hS ⊢
                          refine W.widen (k := 29 + 200 * i_41) (n := 174 + 4656 * i_41) (by omega) (by omega) ?_
                          refine lv_if_ne (tgt := 228) hx hb dL_areTrucks_211 (by decide) (fun c_211 => ?_) (fun c_211 => ?_)
                          · skip
                            refine lv_aload_n hx hb dL_areTrucks_228 rfl (lv_at hl 3 rfl) ?_
                            refine lv_iload hx hb dL_areTrucks_229 (lv_at hl 6 rfl) ?_
                            refine lv_iload hx hb dL_areTrucks_231 (lv_at hl 9 rfl) ?_
                            refine va_calli (vx_runSW (As := [.ref (a), .int (y5_41), .int ((p_queueLength (ft_nr r) y5_41))]) (rest := []) ⟨hx, hb, hml, hown, hts⟩ (d_L_wantedDish l hl0 D Z k sz a σ41 y5_41 (p_queueLength (ft_nr r) y5_41) (ex_wantedDish)) (vx_cwSW 3 hts gL_areTrucks_L_wantedDish rfl rfl rfl (by decide +kernel) ⟨Nat.le_of_ble_eq_true rfl, Nat.le_of_ble_eq_true rfl⟩) (ft_preM hEL hz hS hP) rfl rfl hl.1 rfl (lv_room (Nat.le_of_ble_eq_true rfl)) dL_areTrucks_233 ⟨(show 29 + 200 * i_41 + 2 ≤ 1208 by omega), (show 174 + 4656 * i_41 + 12 ≤ 27984 by omega)⟩) hS (fun _ _ h => h) (fun _ h => h) (fun z u t H1 locs1 ht hvm hw hB hz1 hk1 hS1 => ?_)
                            obtain rfl : z = w_wantedDish (ft_nr r) y5_41 (p_queueLength (ft_nr r) y5_41) := hw.trans (ft_ev (f := fun q9 => w_wantedDish (ft_nr q9) y5_41 (p_queueLength (ft_nr r) y5_41)) hq_41 rfl)
                            rw [ht] at hB
                            have hP := hB
                            have hS := hS1
                            clear hS1
                            generalize H1 = H at hP hS ⊢
                            refine W.widen (k := 31 + 200 * i_41) (n := 186 + 4656 * i_41) (by omega) (by omega) ?_
                            refine lv_sipush (v := (-1000)) hx hb dL_areTrucks_236 (by decide) ?_
                            refine lv_icmp_ne (tgt := 289) hx hb dL_areTrucks_239 (by decide) (fun c_239 => ?_) (fun c_239 => ?_)
                            · skip
                              exact absurd (hJ.a10 hg _ i_41 hi_41 hlt_41) c_239
                            · skip
                              refine lv_aload_n hx hb dL_areTrucks_242 rfl (lv_at hl 3 rfl) ?_
                              refine lv_iload hx hb dL_areTrucks_243 (lv_at hl 6 rfl) ?_
                              refine va_calli (vx_runSW (As := [.ref (a), .int (y5_41)]) (rest := []) ⟨hx, hb, hml, hown, hts⟩ (d_L_firstFreeDay l hl0 D Z k sz a σ41 y5_41 (ex_firstFreeDay)) (vx_cwSW 2 hts gL_areTrucks_L_firstFreeDay rfl rfl rfl (by decide +kernel) ⟨Nat.le_of_ble_eq_true rfl, Nat.le_of_ble_eq_true rfl⟩) (ft_preM hEL hz hS hP) rfl rfl hl.1 rfl (lv_room (Nat.le_of_ble_eq_true rfl)) dL_areTrucks_245 ⟨(show 31 + 200 * i_41 + 2 ≤ 1208 by omega), (show 186 + 4656 * i_41 + 12 ≤ 27984 by omega)⟩) hS (fun _ _ h => h) (fun _ h => h) (fun z u t H1 locs1 ht hvm hw hB hz1 hk1 hS1 => ?_)
                              obtain rfl : z = w_firstFreeDay (ft_nr r) y5_41 := hw.trans (ft_ev (f := fun q9 => w_firstFreeDay (ft_nr q9) y5_41) hq_41 rfl)
                              rw [ht] at hB
                              have hP := hB
                              have hS := hS1
                              clear hS1
                              generalize H1 = H at hP hS ⊢
                              refine W.widen (k := 33 + 200 * i_41) (n := 198 + 4656 * i_41) (by omega) (by omega) ?_
                              refine lv_aload_n hx hb dL_areTrucks_248 rfl (lv_at hl 3 rfl) ?_
                              refine lv_iload hx hb dL_areTrucks_249 (lv_at hl 6 rfl) ?_
                              refine va_calli (va_runS (As := [.ref (a), .int (y5_41)]) (rest := [.int ((w_firstFreeDay (ft_nr r) y5_41))]) ⟨hx, hb, hml, hown, hts⟩ (c_L_firstOf l hl0 D Z k sz a σ41 r hq_41 y5_41 (hJ.dT hg _ i_41 hi_41 hlt_41)) (va_cwS 2 hts gL_areTrucks_L_firstOf rfl rfl rfl (by decide +kernel) ⟨Nat.le_of_ble_eq_true rfl, Nat.le_of_ble_eq_true rfl⟩) (ft_preM hEL hz hS hP) rfl rfl hl.1 rfl (lv_room (Nat.le_of_ble_eq_true rfl)) dL_areTrucks_251 ⟨(show 33 + 200 * i_41 + 140 ≤ 1208 by omega), (show 198 + 4656 * i_41 + 840 ≤ 27984 by omega)⟩) hS (fun _ _ h => h) (fun _ h => h) (fun z u t H1 locs1 ht hvm hw hB hz1 hk1 hS1 => ?_)
                              obtain rfl : z = (s_L_firstOf r y5_41) := hw
                              rw [ht] at hB
                              have hP := hB
                              have hS := hS1
                              clear hS1
                              generalize H1 = H at hP hS ⊢
                              refine W.widen (k := 173 + 200 * i_41) (n := 1038 + 4656 * i_41) (by omega) (by omega) ?_
                              refine lv_icmp_ne (tgt := 289) hx hb dL_areTrucks_254 (by decide) (fun c_254 => ?_) (fun c_254 => ?_)
                              · skip
                                exact absurd (hJ.a11 hg _ i_41 hi_41 hlt_41) c_254
                              · skip
                                refine lv_aload_n hx hb dL_areTrucks_257 rfl (lv_at hl 3 rfl) ?_
                                refine lv_iload hx hb dL_areTrucks_258 (lv_at hl 6 rfl) ?_
                                refine va_calli (va_runV (As := [.int (y5_41)]) (rest := []) ⟨hx, hb, hml, hown, hts⟩ (ft_noXs (z := p_renderTruck σ41 y5_41) (cl_renderTruck l hl0 D Z k sz a σ41 y5_41 (hJ.pm hj_41) (hJ.ok1 hj_41) (hJ.rtH hj_41 (by omega) hq_41 _ i_41 hi_41 hlt_41).1 (hJ.rtH hj_41 (by omega) hq_41 _ i_41 hi_41 hlt_41).2.1 (hJ.rtH hj_41 (by omega) hq_41 _ i_41 hi_41 hlt_41).2.2.1 (hJ.rtH hj_41 (by omega) hq_41 _ i_41 hi_41 hlt_41).2.2.2.1 (hJ.rtH hj_41 (by omega) hq_41 _ i_41 hi_41 hlt_41).2.2.2.2) (hJ.rtv hj_41 (by omega) hq_41 _ i_41 hi_41 hlt_41)) (cwV 1 hts gL_areTrucks_X7_renderTruck rfl rfl rfl (by decide +kernel) ⟨Nat.le_of_ble_eq_true rfl, Nat.le_of_ble_eq_true rfl⟩) (ft_preL hE hz hS hP) rfl rfl hl.1 rfl (lv_room (Nat.le_of_ble_eq_true rfl)) dL_areTrucks_260 ⟨(show 173 + 200 * i_41 + 25 ≤ 1208 by omega), (show 1038 + 4656 * i_41 + 3606 ≤ 27984 by omega)⟩) hS (fun _ _ h => h) (fun _ h => h) (fun z u t H1 locs1 ht hvm hw hB hz1 hk1 hS1 => ?_)
                                obtain ⟨rfl, rfl⟩ : z = p_renderTruck σ41 y5_41 ∧ u = (l_renderTruck σ41 y5_41).2 := ⟨congrArg Prod.fst hw, congrArg Prod.snd hw⟩
                                rw [ht] at hB
                                have hP := hB
                                have hS := hS1
                                clear hS1
                                generalize H1 = H at hP hS ⊢
                                refine W.widen (k := 198 + 200 * i_41) (n := 4644 + 4656 * i_41) (by omega) (by omega) ?_
                                have hJ_260_3 : J (jc0 + 0) (l_renderTruck σ41 y5_41).2 := hJ.mono (hJ.k_renderTruck _ hj_41 (by omega)) (by omega)
                                have hq_260_4 : (l_renderTruck σ41 y5_41).2.1 0 = r := (hJ.r_renderTruck _).trans hq_41
                                refine lv_bipush (v := 12) hx hb dL_areTrucks_263 (by decide) ?_
                                refine lv_iload hx hb dL_areTrucks_265 (lv_at hl 8 rfl) ?_
                                refine lv_sipush (v := (-1000)) hx hb dL_areTrucks_267 (by decide) ?_
                                refine lv_icmp_ne (tgt := 277) hx hb dL_areTrucks_270 (by decide) (fun c_270 => ?_) (fun c_270 => ?_)
                                · skip
                                  refine lv_iconst (v := 2) hx hb dL_areTrucks_277 (by decide) ?_
                                  refine lv_iload hx hb dL_areTrucks_278 (lv_at hl 9 rfl) ?_
                                  refine lv_iadd hx hb dL_areTrucks_280 ?_
                                  refine lv_iadd hx hb dL_areTrucks_281 ?_
                                  refine lv_icmp_lt (tgt := 289) hx hb dL_areTrucks_282 (by decide) (fun c_282 => ?_) (fun c_282 => ?_)
                                  · skip
                                    exact absurd c_282 (hJ.rt1 hj_41 (by omega) hq_41 _ i_41 hi_41 hlt_41 c_194)
                                  · skip
                                    refine lv_iconst (v := 1) hx hb dL_areTrucks_285 (by decide) ?_
                                    refine lv_goto (tgt := 290) hx hb dL_areTrucks_286 (by decide) ?_
                                    refine lv_istore (lv' := [(4, .int (1)), (2, .int (y2_41 + (p_queueLength (ft_nr r) y5_41))), (1, .int (y1_41 + (p_coins (ft_nr r) y5_41))), (9, .int (0)), (0, .ref (a)), (3, .int (0)), (5, .int (y5_41)), (6, .int (y6_84)), (7, .int ((w_pitchOf (ft_nr r) y5_41 ((l_day (ft_nr r)) - (l_day (ft_nr r)) / 7 * 7)))), (8, .int ((p_queueLength (ft_nr r) y5_41)))]) hx hb dL_areTrucks_290 hl (by decide) rfl (fun ls hl => ?_)
                                    refine lv_iinc (v := y5_41 + 1) (lv' := [(5, .int (y5_41 + 1)), (4, .int (1)), (2, .int (y2_41 + (p_queueLength (ft_nr r) y5_41))), (1, .int (y1_41 + (p_coins (ft_nr r) y5_41))), (9, .int (0)), (0, .ref (a)), (3, .int (0)), (6, .int (y6_84)), (7, .int ((w_pitchOf (ft_nr r) y5_41 ((l_day (ft_nr r)) - (l_day (ft_nr r)) / 7 * 7)))), (8, .int ((p_queueLength (ft_nr r) y5_41)))]) hx hb dL_areTrucks_292 hl (k := 6) rfl rfl (by decide) rfl (fun ls hl => ?_)
                                    refine lv_goto (tgt := 41) hx hb dL_areTrucks_295 (by decide) ?_
                                    refine W.widen (k := 2 + 200 * (i_41 + 1)) (n := 12 + 4656 * (i_41 + 1)) (by omega) (by omega) ?_
                                    exact ih_41 (y1_41 + (p_coins (ft_nr r) y5_41)) (y2_41 + (p_queueLength (ft_nr r) y5_41)) (y5_41 + 1) ((l_renderTruck σ41 y5_41).2) (i_41 + 1) (by rw [hi_41, nI_1]) hlt_41 (by omega) (show J (jc0 + 0) ((l_renderTruck σ41 y5_41).2) from hJ.mono hJ_260_3 (by omega)) hq_260_4 (⟨hp_41.1.tr (hJ.sm_renderTruck _), by rw [hp_41.2.1, hi_41]; rfl, by rw [hp_41.2.2, hi_41]; rfl⟩) _ _ hP hS ls (lv_sub hl [5, 3, 2, 6, 1, 0] rfl)
                                · skip
                                  exact absurd c_270 (c_194)
                          · skip
                            exact absurd c_211 ((by rw [hJ.a9 hg _ i_41 hi_41 hlt_41 c_194]; decide))
      refine W.widen (k := 2 + 200 * 0) (n := 12 + 4656 * 0) (by omega) (by omega) ?_
      refine loop_41 (fun y1_41 y2_41 y5_41 σ41 i_41 hi_41 hm_41 hx_41 hj_41 hq_41 hp_41 H locs hP hS ls hl => ?_) (tn (l_truckCount (ft_nr r)) + 1) 0 0 0 σ 0 rfl (Nat.zero_le _) (by omega) (show J (jc0 + 0) σ from hJ.mono h0 (by omega)) hq (⟨ft_zm.rf, rfl, rfl⟩) _ _ hP hS ls (lv_sub hl [5, 4, 3, 2, 1, 0] rfl)
      have hm5_41 : i_41 ≤ 6 := Nat.le_trans hm_41 hbn_41
      refine W.widen (k := 1202) (n := 27948) (by omega) (by omega) ?_
      refine lv_iconst (v := 0) hx hb dL_areTrucks_298 (by decide) ?_
      refine lv_istore (lv' := [(5, .int (0)), (0, .ref (a)), (1, .int (y1_41)), (2, .int (y2_41)), (3, .int (0)), (4, .int (1))]) hx hb dL_areTrucks_299 hl (by decide) rfl (fun ls hl => ?_)
      have loop_301 : ∀ (hKx : ∀ (y3_301 : Int32) (y5_301 : Int32) (i_301 : Nat) (hi_301 : y5_301 = nI i_301) (hm_301 : i_301 ≤ tn 4) (hx_301 : i_301 = tn 4) (hv_301 : y3_301 = ft_up (fun y => p_soldPortions (ft_nr r) y) 0 i_301) (H : Heap) (locs : List Loc) (hP : ft_LW D k Z sz a σ41 H) (hS : va_S (ft_AL sz) s.heap H locs) (ls : Array Slot) (hl : lv_has ls 10 [(0, .ref (a)), (1, .int (y1_41)), (2, .int (y2_41)), (3, .int (y3_301)), (4, .int (1)), (5, .int (y5_301))]), W p l e (headSpec wsL_areTrucks ({ frames := 11, cells := 1208, slots := 27984, locals := 248 })).room s m ([.ref a] : List Value).toArray below meth c H locs (1202 + 4) (27948 + 24) (MQ below (ft_QR J D k Z sz a (jc0 + 0) (fun z u => z = 1 ∧ ft_zm σ u)) ([.ref a] : List Value).toArray s 1208 27984 (ft_AL sz)) (F0 m 322 ls [])) (n_301 : Nat), ∀ (y3_301 : Int32) (y5_301 : Int32) (i_301 : Nat) (hi_301 : y5_301 = nI i_301) (hm_301 : i_301 ≤ tn 4) (hn_301 : tn 4 < n_301 + i_301) (hv_301 : y3_301 = ft_up (fun y => p_soldPortions (ft_nr r) y) 0 i_301) (H : Heap) (locs : List Loc) (hP : ft_LW D k Z sz a σ41 H) (hS : va_S (ft_AL sz) s.heap H locs) (ls : Array Slot) (hl : lv_has ls 10 [(0, .ref (a)), (1, .int (y1_41)), (2, .int (y2_41)), (3, .int (y3_301)), (4, .int (1)), (5, .int (y5_301))]), W p l e (headSpec wsL_areTrucks ({ frames := 11, cells := 1208, slots := 27984, locals := 248 })).room s m ([.ref a] : List Value).toArray below meth c H locs (1202 + 1 * i_301) (27948 + 6 * i_301) (MQ below (ft_QR J D k Z sz a (jc0 + 0) (fun z u => z = 1 ∧ ft_zm σ u)) ([.ref a] : List Value).toArray s 1208 27984 (ft_AL sz)) (F0 m 301 ls []) := by
        intro hKx n_301
        induction n_301 with
        | zero => intro y3_301 y5_301 i_301 hi_301 hm_301 hn_301; exact absurd hn_301 (by omega)
        | succ n ih_301 =>
          intro y3_301 y5_301 i_301 hi_301 hm_301 hn_301 hv_301 H locs hP hS ls hl
          have hm5_301 : i_301 ≤ 4 := hm_301
          refine lv_iload hx hb dL_areTrucks_301 (lv_at hl 5 rfl) ?_
          refine lv_iconst (v := 4) hx hb dL_areTrucks_303 (by decide) ?_
          refine lv_icmp_ge (tgt := 322) hx hb dL_areTrucks_304 (by decide) (fun c_304 => ?_) (fun c_304 => ?_)
          · skip
            refine W.widen (k := 1202 + 4) (n := 27948 + 24) (by omega) (by omega) ?_
            exact hKx y3_301 y5_301 i_301 hi_301 hm_301 (ft_exi hi_301 hm_301 c_304) hv_301 _ _ hP hS ls (lv_sub hl [0, 1, 2, 3, 4, 5] rfl)
          · skip
            have hlt_301 := ft_step hi_301 hm_301 c_304
            have hl5_301 : i_301 + 1 ≤ 4 := hlt_301
            refine lv_iload_n hx hb dL_areTrucks_307 rfl (lv_at hl 3 rfl) ?_
            refine lv_aload_n hx hb dL_areTrucks_308 rfl (lv_at hl 0 rfl) ?_
            refine lv_iload hx hb dL_areTrucks_309 (lv_at hl 5 rfl) ?_
            refine va_calli (va_runV (As := [.int (y5_301)]) (rest := [.int (y3_301)]) ⟨hx, hb, hml, hown, hts⟩ (ft_noX (z := p_soldPortions (ft_nr r) y5_301) (cl_soldPortions l hl0 D Z k sz a σ41 y5_301 ) (ft_ev (f := fun q9 => l_soldPortions (ft_nr q9) y5_301) hq_41 (ok_soldPortions (ft_nd hi_301 hl5_301)))) (cwV 1 hts gL_areTrucks_X7_soldPortions rfl rfl rfl (by decide +kernel) ⟨Nat.le_of_ble_eq_true rfl, Nat.le_of_ble_eq_true rfl⟩) (ft_preL hE hz hS hP) rfl rfl hl.1 rfl (lv_room (Nat.le_of_ble_eq_true rfl)) dL_areTrucks_311 ⟨(show 1202 + 1 * i_301 + 1 ≤ 1208 by omega), (show 27948 + 6 * i_301 + 6 ≤ 27984 by omega)⟩) hS (fun _ _ h => h) (fun _ h => h) (fun z u t H1 locs1 ht hvm hw hB hz1 hk1 hS1 => ?_)
            obtain rfl : p_soldPortions (ft_nr r) y5_301 = z := Eq.symm hw
            rw [ht] at hB
            have hP := hB
            have hS := hS1
            clear hS1
            generalize H1 = H at hP hS ⊢
            refine W.widen (k := 1203 + 1 * i_301) (n := 27954 + 6 * i_301) (by omega) (by omega) ?_
            refine lv_iadd hx hb dL_areTrucks_314 ?_
            refine lv_istore_n (lv' := [(3, .int (y3_301 + (p_soldPortions (ft_nr r) y5_301))), (0, .ref (a)), (1, .int (y1_41)), (2, .int (y2_41)), (4, .int (1)), (5, .int (y5_301))]) hx hb dL_areTrucks_315 rfl hl (by decide) rfl (fun ls hl => ?_)
            refine lv_iinc (v := y5_301 + 1) (lv' := [(5, .int (y5_301 + 1)), (3, .int (y3_301 + (p_soldPortions (ft_nr r) y5_301))), (0, .ref (a)), (1, .int (y1_41)), (2, .int (y2_41)), (4, .int (1))]) hx hb dL_areTrucks_316 hl (k := 5) rfl rfl (by decide) rfl (fun ls hl => ?_)
            refine lv_goto (tgt := 301) hx hb dL_areTrucks_319 (by decide) ?_
            refine W.widen (k := 1202 + 1 * (i_301 + 1)) (n := 27948 + 6 * (i_301 + 1)) (by omega) (by omega) ?_
            exact ih_301 (y3_301 + (p_soldPortions (ft_nr r) y5_301)) (y5_301 + 1) (i_301 + 1) (by rw [hi_301, nI_1]) hlt_301 (by omega) (by rw [hv_301, hi_301]; rfl) _ _ hP hS ls (lv_sub hl [2, 3, 4, 1, 5, 0] rfl)
      refine W.widen (k := 1202 + 1 * 0) (n := 27948 + 6 * 0) (by omega) (by omega) ?_
      refine loop_301 (fun y3_301 y5_301 i_301 hi_301 hm_301 hx_301 hv_301 H locs hP hS ls hl => ?_) (tn 4 + 1) 0 0 0 rfl (Nat.zero_le _) (by omega) (rfl) _ _ hP hS ls (lv_sub hl [1, 2, 3, 4, 5, 0] rfl)
      have hm5_301 : i_301 ≤ 4 := hm_301
      refine W.widen (k := 1206) (n := 27972) (by omega) (by omega) ?_
      refine lv_iload hx hb dL_areTrucks_322 (lv_at hl 4 rfl) ?_
      refine lv_if_eq (tgt := 362) hx hb dL_areTrucks_324 (by decide) (fun c_324 => ?_) (fun c_324 => ?_)
      · skip
        first | exact absurd c_324 (by decide) | exact absurd (by decide) c_324
      · skip
        refine lv_iload_n hx hb dL_areTrucks_327 rfl (lv_at hl 3 rfl) ?_
        refine lv_aload_n hx hb dL_areTrucks_328 rfl (lv_at hl 0 rfl) ?_
        refine vp_callSi (va_Run.run (va_runV (As := []) (rest := [.int (y3_301)]) ⟨hx, hb, hml, hown, hts⟩ (cl_servedTotal l D Z k sz a σ41) (cwV 0 hts gL_areTrucks_X7_servedTotal rfl rfl rfl (by decide +kernel) ⟨Nat.le_of_ble_eq_true rfl, Nat.le_of_ble_eq_true rfl⟩) (ft_preL hE hz hS hP) rfl rfl hl.1 rfl (lv_room (Nat.le_of_ble_eq_true rfl)) dL_areTrucks_329 ⟨Nat.le_of_ble_eq_true rfl, Nat.le_of_ble_eq_true rfl⟩)) (fun z hz9 => ?_)
        replace hz9 : z = l_servedTotal (ft_nr r) := hz9.trans (ft_ev (f := fun q9 => l_servedTotal (ft_nr q9)) hq_41 rfl)
        subst hz9
        refine lv_icmp_ne (tgt := 362) hx hb dL_areTrucks_332 (by decide) (fun c_332 => ?_) (fun c_332 => ?_)
        · skip
          exact absurd ((by rw [hv_301, hx_301]; exact hJ.a12 hg)) c_332
        · skip
          refine lv_aload_n hx hb dL_areTrucks_335 rfl (lv_at hl 0 rfl) ?_
          refine vp_callSi (va_Run.run (va_runV (As := []) (rest := []) ⟨hx, hb, hml, hown, hts⟩ (cl_arrivedTotal l D Z k sz a σ41) (cwV 0 hts gL_areTrucks_X7_arrivedTotal rfl rfl rfl (by decide +kernel) ⟨Nat.le_of_ble_eq_true rfl, Nat.le_of_ble_eq_true rfl⟩) (ft_preL hE hz hS hP) rfl rfl hl.1 rfl (lv_room (Nat.le_of_ble_eq_true rfl)) dL_areTrucks_336 ⟨Nat.le_of_ble_eq_true rfl, Nat.le_of_ble_eq_true rfl⟩)) (fun z hz9 => ?_)
          replace hz9 : z = l_arrivedTotal (ft_nr r) := hz9.trans (ft_ev (f := fun q9 => l_arrivedTotal (ft_nr q9)) hq_41 rfl)
          subst hz9
          refine lv_aload_n hx hb dL_areTrucks_339 rfl (lv_at hl 0 rfl) ?_
          refine vp_callSi (va_Run.run (va_runV (As := []) (rest := [.int ((l_arrivedTotal (ft_nr r)))]) ⟨hx, hb, hml, hown, hts⟩ (cl_servedTotal l D Z k sz a σ41) (cwV 0 hts gL_areTrucks_X7_servedTotal rfl rfl rfl (by decide +kernel) ⟨Nat.le_of_ble_eq_true rfl, Nat.le_of_ble_eq_true rfl⟩) (ft_preL hE hz hS hP) rfl rfl hl.1 rfl (lv_room (Nat.le_of_ble_eq_true rfl)) dL_areTrucks_340 ⟨Nat.le_of_ble_eq_true rfl, Nat.le_of_ble_eq_true rfl⟩)) (fun z hz9 => ?_)
          replace hz9 : z = l_servedTotal (ft_nr r) := hz9.trans (ft_ev (f := fun q9 => l_servedTotal (ft_nr q9)) hq_41 rfl)
          subst hz9
          refine lv_aload_n hx hb dL_areTrucks_343 rfl (lv_at hl 0 rfl) ?_
          refine vp_callSi (va_Run.run (va_runV (As := []) (rest := [.int ((l_servedTotal (ft_nr r))), .int ((l_arrivedTotal (ft_nr r)))]) ⟨hx, hb, hml, hown, hts⟩ (cl_disappointedTotal l D Z k sz a σ41) (cwV 0 hts gL_areTrucks_X7_disappointedTotal rfl rfl rfl (by decide +kernel) ⟨Nat.le_of_ble_eq_true rfl, Nat.le_of_ble_eq_true rfl⟩) (ft_preL hE hz hS hP) rfl rfl hl.1 rfl (lv_room (Nat.le_of_ble_eq_true rfl)) dL_areTrucks_344 ⟨Nat.le_of_ble_eq_true rfl, Nat.le_of_ble_eq_true rfl⟩)) (fun z hz9 => ?_)
          replace hz9 : z = l_disappointedTotal (ft_nr r) := hz9.trans (ft_ev (f := fun q9 => l_disappointedTotal (ft_nr q9)) hq_41 rfl)
          subst hz9
          refine lv_iadd hx hb dL_areTrucks_347 ?_
          refine lv_aload_n hx hb dL_areTrucks_348 rfl (lv_at hl 0 rfl) ?_
          refine vp_callSi (va_Run.run (va_runV (As := []) (rest := [.int ((l_servedTotal (ft_nr r)) + (l_disappointedTotal (ft_nr r))), .int ((l_arrivedTotal (ft_nr r)))]) ⟨hx, hb, hml, hown, hts⟩ (cl_lostTotal l D Z k sz a σ41) (cwV 0 hts gL_areTrucks_X7_lostTotal rfl rfl rfl (by decide +kernel) ⟨Nat.le_of_ble_eq_true rfl, Nat.le_of_ble_eq_true rfl⟩) (ft_preL hE hz hS hP) rfl rfl hl.1 rfl (lv_room (Nat.le_of_ble_eq_true rfl)) dL_areTrucks_349 ⟨Nat.le_of_ble_eq_true rfl, Nat.le_of_ble_eq_true rfl⟩)) (fun z hz9 => ?_)
          replace hz9 : z = l_lostTotal (ft_nr r) := hz9.trans (ft_ev (f := fun q9 => l_lostTotal (ft_nr q9)) hq_41 rfl)
          subst hz9
          refine lv_iadd hx hb dL_areTrucks_352 ?_
          refine lv_iload_n hx hb dL_areTrucks_353 rfl (lv_at hl 2 rfl) ?_
          refine lv_iadd hx hb dL_areTrucks_354 ?_
          refine lv_icmp_ne (tgt := 362) hx hb dL_areTrucks_355 (by decide) (fun c_355 => ?_) (fun c_355 => ?_)
          · skip
            exact absurd ((hJ.a13 hg).trans (by rw [hp_41.2.2, hx_41])) c_355
          · skip
            refine lv_iconst (v := 1) hx hb dL_areTrucks_358 (by decide) ?_
            refine lv_goto (tgt := 363) hx hb dL_areTrucks_359 (by decide) ?_
            refine lv_istore (lv' := [(4, .int (1)), (0, .ref (a)), (1, .int (y1_41)), (2, .int (y2_41)), (3, .int (y3_301)), (5, .int (y5_301))]) hx hb dL_areTrucks_363 hl (by decide) rfl (fun ls hl => ?_)
            refine lv_iload hx hb dL_areTrucks_365 (lv_at hl 0 rfl) ?_
            refine lv_if_eq (tgt := 434) hx hb dL_areTrucks_367 (by decide) (fun c_367 => ?_) (fun c_367 => ?_)
            · skip
              first | exact absurd c_367 (by decide) | exact absurd (by decide) c_367
            · skip
              refine lv_aload_n hx hb dL_areTrucks_370 rfl (lv_at hl 1 rfl) ?_
              refine va_calld (vx_runSW (As := [.ref (a)]) (rest := []) ⟨hx, hb, hml, hown, hts⟩ (d_L_meanCoins l hl0 D Z k sz a σ41 (by rw [hq_41]; exact hJ.m2 hg) ex_meanCoins) (vx_cwSW 1 hts gL_areTrucks_L_meanCoins rfl rfl rfl (by decide +kernel) ⟨Nat.le_of_ble_eq_true rfl, Nat.le_of_ble_eq_true rfl⟩) (ft_preM hEL hz hS hP) rfl rfl hl.1 rfl (lv_room (Nat.le_of_ble_eq_true rfl)) dL_areTrucks_371 ⟨Nat.le_of_ble_eq_true rfl, Nat.le_of_ble_eq_true rfl⟩) hS (fun _ _ h => h) (fun _ h => h) (fun z u t H1 locs1 ht hvm hw hB hz1 hk1 hS1 => ?_)
              obtain rfl : z = (w_meanCoins (ft_nr r)) := hw.trans (ft_ev (f := fun q9 => w_meanCoins (ft_nr q9)) hq_41 rfl)
              rw [ht] at hB
              have hP := hB
              have hS := hS1
              clear hS1
              generalize H1 = H at hP hS ⊢
              refine W.widen (k := 1207) (n := 27978) (by omega) (by omega) ?_
              refine lv_aload_n hx hb dL_areTrucks_374 rfl (lv_at hl 1 rfl) ?_
              refine vp_callSi (va_Run.run (va_runV (As := []) (rest := [.double (w_meanCoins (ft_nr r))]) ⟨hx, hb, hml, hown, hts⟩ (cl_truckCount l D Z k sz a σ41) (cwV 0 hts gL_areTrucks_X7_truckCount rfl rfl rfl (by decide +kernel) ⟨Nat.le_of_ble_eq_true rfl, Nat.le_of_ble_eq_true rfl⟩) (ft_preL hE hz hS hP) rfl rfl hl.1 rfl (lv_room (Nat.le_of_ble_eq_true rfl)) dL_areTrucks_375 ⟨Nat.le_of_ble_eq_true rfl, Nat.le_of_ble_eq_true rfl⟩)) (fun z hz9 => ?_)
              replace hz9 : z = l_truckCount (ft_nr r) := hz9.trans (ft_ev (f := fun q9 => l_truckCount (ft_nr q9)) hq_41 rfl)
              subst hz9
              refine lv_if_ne (tgt := 387) hx hb dL_areTrucks_378 (by decide) (fun c_378 => ?_) (fun c_378 => ?_)
              · skip
                refine lv_iload_n hx hb dL_areTrucks_387 rfl (lv_at hl 2 rfl) ?_
                refine lv_i2d hx hb dL_areTrucks_388 ?_
                refine lv_aload_n hx hb dL_areTrucks_389 rfl (lv_at hl 1 rfl) ?_
                refine vp_callSi (va_Run.run (va_runV (As := []) (rest := [.double (FP.i2d y1_41), .double (w_meanCoins (ft_nr r))]) ⟨hx, hb, hml, hown, hts⟩ (cl_truckCount l D Z k sz a σ41) (cwV 0 hts gL_areTrucks_X7_truckCount rfl rfl rfl (by decide +kernel) ⟨Nat.le_of_ble_eq_true rfl, Nat.le_of_ble_eq_true rfl⟩) (ft_preL hE hz hS hP) rfl rfl hl.1 rfl (lv_room (Nat.le_of_ble_eq_true rfl)) dL_areTrucks_390 ⟨Nat.le_of_ble_eq_true rfl, Nat.le_of_ble_eq_true rfl⟩)) (fun z hz9 => ?_)
                replace hz9 : z = l_truckCount (ft_nr r) := hz9.trans (ft_ev (f := fun q9 => l_truckCount (ft_nr q9)) hq_41 rfl)
                subst hz9
                refine lv_i2d hx hb dL_areTrucks_393 ?_
                refine lv_ddiv hx hb dL_areTrucks_394 ((by rw [hp_41.2.1, hx_41]; exact (hJ.m1 hg c_378).1)) ?_
                refine lv_dcmp hx hb dL_areTrucks_395 ?_
                rw [show Op.cmpValue (FP.dcmp (w_meanCoins (ft_nr r)) (FP.ddiv (FP.i2d y1_41) (FP.i2d (l_truckCount (ft_nr r))))) .l = 0 from (by rw [hp_41.2.1, hx_41]; exact (hJ.m1 hg c_378).2)]
                refine lv_if_ne (tgt := 434) hx hb dL_areTrucks_396 (by decide) (fun c_396 => ?_) (fun c_396 => ?_)
                · skip
                  first | exact absurd c_396 (by decide) | exact absurd (by decide) c_396
                · skip
                  refine lv_aload_n hx hb dL_areTrucks_399 rfl (lv_at hl 1 rfl) ?_
                  refine va_callf (vx_runSW (As := [.ref (a)]) (rest := []) ⟨hx, hb, hml, hown, hts⟩ (d_L_servedShare l hl0 D Z k sz a σ41 (by rw [hq_41]; exact hJ.s2 hg) ex_servedShare) (vx_cwSW 1 hts gL_areTrucks_L_servedShare rfl rfl rfl (by decide +kernel) ⟨Nat.le_of_ble_eq_true rfl, Nat.le_of_ble_eq_true rfl⟩) (ft_preM hEL hz hS hP) rfl rfl hl.1 rfl (lv_room (Nat.le_of_ble_eq_true rfl)) dL_areTrucks_400 ⟨Nat.le_of_ble_eq_true rfl, Nat.le_of_ble_eq_true rfl⟩) hS (fun _ _ h => h) (fun _ h => h) (fun z u t H1 locs1 ht hvm hw hB hz1 hk1 hS1 => ?_)
                  obtain rfl : z = (w_servedShare (ft_nr r)) := hw.trans (ft_ev (f := fun q9 => w_servedShare (ft_nr q9)) hq_41 rfl)
                  rw [ht] at hB
                  have hP := hB
                  have hS := hS1
                  clear hS1
                  generalize H1 = H at hP hS ⊢
                  refine W.widen (k := 1208) (n := 27984) (by omega) (by omega) ?_
                  refine lv_aload_n hx hb dL_areTrucks_403 rfl (lv_at hl 1 rfl) ?_
                  refine vp_callSi (va_Run.run (va_runV (As := []) (rest := [.float (w_servedShare (ft_nr r))]) ⟨hx, hb, hml, hown, hts⟩ (cl_arrivedTotal l D Z k sz a σ41) (cwV 0 hts gL_areTrucks_X7_arrivedTotal rfl rfl rfl (by decide +kernel) ⟨Nat.le_of_ble_eq_true rfl, Nat.le_of_ble_eq_true rfl⟩) (ft_preL hE hz hS hP) rfl rfl hl.1 rfl (lv_room (Nat.le_of_ble_eq_true rfl)) dL_areTrucks_404 ⟨Nat.le_of_ble_eq_true rfl, Nat.le_of_ble_eq_true rfl⟩)) (fun z hz9 => ?_)
                  replace hz9 : z = l_arrivedTotal (ft_nr r) := hz9.trans (ft_ev (f := fun q9 => l_arrivedTotal (ft_nr q9)) hq_41 rfl)
                  subst hz9
                  refine lv_if_ne (tgt := 415) hx hb dL_areTrucks_407 (by decide) (fun c_407 => ?_) (fun c_407 => ?_)
                  · skip
                    refine lv_aload_n hx hb dL_areTrucks_415 rfl (lv_at hl 1 rfl) ?_
                    refine vp_callSi (va_Run.run (va_runV (As := []) (rest := [.float (w_servedShare (ft_nr r))]) ⟨hx, hb, hml, hown, hts⟩ (cl_servedTotal l D Z k sz a σ41) (cwV 0 hts gL_areTrucks_X7_servedTotal rfl rfl rfl (by decide +kernel) ⟨Nat.le_of_ble_eq_true rfl, Nat.le_of_ble_eq_true rfl⟩) (ft_preL hE hz hS hP) rfl rfl hl.1 rfl (lv_room (Nat.le_of_ble_eq_true rfl)) dL_areTrucks_416 ⟨Nat.le_of_ble_eq_true rfl, Nat.le_of_ble_eq_true rfl⟩)) (fun z hz9 => ?_)
                    replace hz9 : z = l_servedTotal (ft_nr r) := hz9.trans (ft_ev (f := fun q9 => l_servedTotal (ft_nr q9)) hq_41 rfl)
                    subst hz9
                    refine lv_i2f hx hb dL_areTrucks_419 ?_
                    refine lv_aload_n hx hb dL_areTrucks_420 rfl (lv_at hl 1 rfl) ?_
                    refine vp_callSi (va_Run.run (va_runV (As := []) (rest := [.float (FP.i2f (l_servedTotal (ft_nr r))), .float (w_servedShare (ft_nr r))]) ⟨hx, hb, hml, hown, hts⟩ (cl_arrivedTotal l D Z k sz a σ41) (cwV 0 hts gL_areTrucks_X7_arrivedTotal rfl rfl rfl (by decide +kernel) ⟨Nat.le_of_ble_eq_true rfl, Nat.le_of_ble_eq_true rfl⟩) (ft_preL hE hz hS hP) rfl rfl hl.1 rfl (lv_room (Nat.le_of_ble_eq_true rfl)) dL_areTrucks_421 ⟨Nat.le_of_ble_eq_true rfl, Nat.le_of_ble_eq_true rfl⟩)) (fun z hz9 => ?_)
                    replace hz9 : z = l_arrivedTotal (ft_nr r) := hz9.trans (ft_ev (f := fun q9 => l_arrivedTotal (ft_nr q9)) hq_41 rfl)
                    subst hz9
                    refine lv_i2f hx hb dL_areTrucks_424 ?_
                    refine lv_fdiv hx hb dL_areTrucks_425 ((hJ.s1 hg c_407).1) ?_
                    refine lv_fcmp hx hb dL_areTrucks_426 ?_
                    rw [show Op.cmpValue (FP.fcmp (w_servedShare (ft_nr r)) (FP.fdiv (FP.i2f (l_servedTotal (ft_nr r))) (FP.i2f (l_arrivedTotal (ft_nr r))))) .l = 0 from (hJ.s1 hg c_407).2]
                    refine lv_if_ne (tgt := 434) hx hb dL_areTrucks_427 (by decide) (fun c_427 => ?_) (fun c_427 => ?_)
                    · skip
                      first | exact absurd c_427 (by decide) | exact absurd (by decide) c_427
                    · skip
                      refine lv_iconst (v := 1) hx hb dL_areTrucks_430 (by decide) ?_
                      refine lv_goto (tgt := 435) hx hb dL_areTrucks_431 (by decide) ?_
                      refine W.widen (k := 1208) (n := 27984) (by omega) (by omega) ?_
                      exact W.zret (v := 1) hx hb hr (rfl) (fun t ht hW => ⟨⟨1, σ41, rfl, ⟨⟨rfl, hp_41.1⟩, hJ.mono hj_41 (by omega)⟩, by show ft_LW D k Z sz a _ t.heap; rw [ht]; exact hP⟩, hS.F ht⟩) hS.2.2 dL_areTrucks_435
                  · skip
                    refine lv_ldcf (v := 3212836864) hx hb hown (hts (.constantFloat RL 81 (3212836864)) (by decide +kernel)) dL_areTrucks_410 ?_
                    refine lv_goto (tgt := 426) hx hb dL_areTrucks_412 (by decide) ?_
                    refine lv_fcmp hx hb dL_areTrucks_426 ?_
                    rw [show Op.cmpValue (FP.fcmp (w_servedShare (ft_nr r)) 3212836864) .l = 0 from (hJ.s0 hg c_407)]
                    refine lv_if_ne (tgt := 434) hx hb dL_areTrucks_427 (by decide) (fun c_427 => ?_) (fun c_427 => ?_)
                    · skip
                      first | exact absurd c_427 (by decide) | exact absurd (by decide) c_427
                    · skip
                      refine lv_iconst (v := 1) hx hb dL_areTrucks_430 (by decide) ?_
                      refine lv_goto (tgt := 435) hx hb dL_areTrucks_431 (by decide) ?_
                      refine W.widen (k := 1208) (n := 27984) (by omega) (by omega) ?_
                      exact W.zret (v := 1) hx hb hr (rfl) (fun t ht hW => ⟨⟨1, σ41, rfl, ⟨⟨rfl, hp_41.1⟩, hJ.mono hj_41 (by omega)⟩, by show ft_LW D k Z sz a _ t.heap; rw [ht]; exact hP⟩, hS.F ht⟩) hS.2.2 dL_areTrucks_435
              · skip
                refine lv_ldc2d (v := 13830554455654793216) hx hb hown (hts (.constantDouble RL 73 (13830554455654793216)) (by decide +kernel)) dL_areTrucks_381 ?_
                refine lv_goto (tgt := 395) hx hb dL_areTrucks_384 (by decide) ?_
                refine lv_dcmp hx hb dL_areTrucks_395 ?_
                rw [show Op.cmpValue (FP.dcmp (w_meanCoins (ft_nr r)) 13830554455654793216) .l = 0 from (hJ.m0 hg c_378)]
                refine lv_if_ne (tgt := 434) hx hb dL_areTrucks_396 (by decide) (fun c_396 => ?_) (fun c_396 => ?_)
                · skip
                  first | exact absurd c_396 (by decide) | exact absurd (by decide) c_396
                · skip
                  refine lv_aload_n hx hb dL_areTrucks_399 rfl (lv_at hl 1 rfl) ?_
                  refine va_callf (vx_runSW (As := [.ref (a)]) (rest := []) ⟨hx, hb, hml, hown, hts⟩ (d_L_servedShare l hl0 D Z k sz a σ41 (by rw [hq_41]; exact hJ.s2 hg) ex_servedShare) (vx_cwSW 1 hts gL_areTrucks_L_servedShare rfl rfl rfl (by decide +kernel) ⟨Nat.le_of_ble_eq_true rfl, Nat.le_of_ble_eq_true rfl⟩) (ft_preM hEL hz hS hP) rfl rfl hl.1 rfl (lv_room (Nat.le_of_ble_eq_true rfl)) dL_areTrucks_400 ⟨Nat.le_of_ble_eq_true rfl, Nat.le_of_ble_eq_true rfl⟩) hS (fun _ _ h => h) (fun _ h => h) (fun z u t H1 locs1 ht hvm hw hB hz1 hk1 hS1 => ?_)
                  obtain rfl : z = (w_servedShare (ft_nr r)) := hw.trans (ft_ev (f := fun q9 => w_servedShare (ft_nr q9)) hq_41 rfl)
                  rw [ht] at hB
                  have hP := hB
                  have hS := hS1
                  clear hS1
                  generalize H1 = H at hP hS ⊢
                  refine W.widen (k := 1208) (n := 27984) (by omega) (by omega) ?_
                  refine lv_aload_n hx hb dL_areTrucks_403 rfl (lv_at hl 1 rfl) ?_
                  refine vp_callSi (va_Run.run (va_runV (As := []) (rest := [.float (w_servedShare (ft_nr r))]) ⟨hx, hb, hml, hown, hts⟩ (cl_arrivedTotal l D Z k sz a σ41) (cwV 0 hts gL_areTrucks_X7_arrivedTotal rfl rfl rfl (by decide +kernel) ⟨Nat.le_of_ble_eq_true rfl, Nat.le_of_ble_eq_true rfl⟩) (ft_preL hE hz hS hP) rfl rfl hl.1 rfl (lv_room (Nat.le_of_ble_eq_true rfl)) dL_areTrucks_404 ⟨Nat.le_of_ble_eq_true rfl, Nat.le_of_ble_eq_true rfl⟩)) (fun z hz9 => ?_)
                  replace hz9 : z = l_arrivedTotal (ft_nr r) := hz9.trans (ft_ev (f := fun q9 => l_arrivedTotal (ft_nr q9)) hq_41 rfl)
                  subst hz9
                  refine lv_if_ne (tgt := 415) hx hb dL_areTrucks_407 (by decide) (fun c_407 => ?_) (fun c_407 => ?_)
                  · skip
                    refine lv_aload_n hx hb dL_areTrucks_415 rfl (lv_at hl 1 rfl) ?_
                    refine vp_callSi (va_Run.run (va_runV (As := []) (rest := [.float (w_servedShare (ft_nr r))]) ⟨hx, hb, hml, hown, hts⟩ (cl_servedTotal l D Z k sz a σ41) (cwV 0 hts gL_areTrucks_X7_servedTotal rfl rfl rfl (by decide +kernel) ⟨Nat.le_of_ble_eq_true rfl, Nat.le_of_ble_eq_true rfl⟩) (ft_preL hE hz hS hP) rfl rfl hl.1 rfl (lv_room (Nat.le_of_ble_eq_true rfl)) dL_areTrucks_416 ⟨Nat.le_of_ble_eq_true rfl, Nat.le_of_ble_eq_true rfl⟩)) (fun z hz9 => ?_)
                    replace hz9 : z = l_servedTotal (ft_nr r) := hz9.trans (ft_ev (f := fun q9 => l_servedTotal (ft_nr q9)) hq_41 rfl)
                    subst hz9
                    refine lv_i2f hx hb dL_areTrucks_419 ?_
                    refine lv_aload_n hx hb dL_areTrucks_420 rfl (lv_at hl 1 rfl) ?_
                    refine vp_callSi (va_Run.run (va_runV (As := []) (rest := [.float (FP.i2f (l_servedTotal (ft_nr r))), .float (w_servedShare (ft_nr r))]) ⟨hx, hb, hml, hown, hts⟩ (cl_arrivedTotal l D Z k sz a σ41) (cwV 0 hts gL_areTrucks_X7_arrivedTotal rfl rfl rfl (by decide +kernel) ⟨Nat.le_of_ble_eq_true rfl, Nat.le_of_ble_eq_true rfl⟩) (ft_preL hE hz hS hP) rfl rfl hl.1 rfl (lv_room (Nat.le_of_ble_eq_true rfl)) dL_areTrucks_421 ⟨Nat.le_of_ble_eq_true rfl, Nat.le_of_ble_eq_true rfl⟩)) (fun z hz9 => ?_)
                    replace hz9 : z = l_arrivedTotal (ft_nr r) := hz9.trans (ft_ev (f := fun q9 => l_arrivedTotal (ft_nr q9)) hq_41 rfl)
                    subst hz9
                    refine lv_i2f hx hb dL_areTrucks_424 ?_
                    refine lv_fdiv hx hb dL_areTrucks_425 ((hJ.s1 hg c_407).1) ?_
                    refine lv_fcmp hx hb dL_areTrucks_426 ?_
                    rw [show Op.cmpValue (FP.fcmp (w_servedShare (ft_nr r)) (FP.fdiv (FP.i2f (l_servedTotal (ft_nr r))) (FP.i2f (l_arrivedTotal (ft_nr r))))) .l = 0 from (hJ.s1 hg c_407).2]
                    refine lv_if_ne (tgt := 434) hx hb dL_areTrucks_427 (by decide) (fun c_427 => ?_) (fun c_427 => ?_)
                    · skip
                      first | exact absurd c_427 (by decide) | exact absurd (by decide) c_427
                    · skip
                      refine lv_iconst (v := 1) hx hb dL_areTrucks_430 (by decide) ?_
                      refine lv_goto (tgt := 435) hx hb dL_areTrucks_431 (by decide) ?_
                      refine W.widen (k := 1208) (n := 27984) (by omega) (by omega) ?_
                      exact W.zret (v := 1) hx hb hr (rfl) (fun t ht hW => ⟨⟨1, σ41, rfl, ⟨⟨rfl, hp_41.1⟩, hJ.mono hj_41 (by omega)⟩, by show ft_LW D k Z sz a _ t.heap; rw [ht]; exact hP⟩, hS.F ht⟩) hS.2.2 dL_areTrucks_435
                  · skip
                    refine lv_ldcf (v := 3212836864) hx hb hown (hts (.constantFloat RL 81 (3212836864)) (by decide +kernel)) dL_areTrucks_410 ?_
                    refine lv_goto (tgt := 426) hx hb dL_areTrucks_412 (by decide) ?_
                    refine lv_fcmp hx hb dL_areTrucks_426 ?_
                    rw [show Op.cmpValue (FP.fcmp (w_servedShare (ft_nr r)) 3212836864) .l = 0 from (hJ.s0 hg c_407)]
                    refine lv_if_ne (tgt := 434) hx hb dL_areTrucks_427 (by decide) (fun c_427 => ?_) (fun c_427 => ?_)
                    · skip
                      first | exact absurd c_427 (by decide) | exact absurd (by decide) c_427
                    · skip
                      refine lv_iconst (v := 1) hx hb dL_areTrucks_430 (by decide) ?_
                      refine lv_goto (tgt := 435) hx hb dL_areTrucks_431 (by decide) ?_
                      refine W.widen (k := 1208) (n := 27984) (by omega) (by omega) ?_
                      exact W.zret (v := 1) hx hb hr (rfl) (fun t ht hW => ⟨⟨1, σ41, rfl, ⟨⟨rfl, hp_41.1⟩, hJ.mono hj_41 (by omega)⟩, by show ft_LW D k Z sz a _ t.heap; rw [ht]; exact hP⟩, hS.F ht⟩) hS.2.2 dL_areTrucks_435
