set_option maxHeartbeats 4000000 in
set_option maxRecDepth 100000 in
theorem c_L_isReleased (l : Launch) (hl0 : l.stackTraces = false) (D : va_G) (Z : Nat → Nat → Nat) (k : Nat → ClassId) (sz : ft_SZ) (a : Nat) (σ : ft_Sg) (J : Nat → ft_Sg → Prop) (G : (Nat → Int32) → Prop) (T : Nat → Nat → ft_Sg → Prop) (hJ : ft_JJ J G T) (jc0 : Nat) (h0 : J jc0 σ) (hc : jc0 + 0 ≤ 1000) (r : Nat → Int32) (hq : σ.1 0 = r) (x2 : Int32) (i0 : Nat) (hi0 : x2 = nI i0) (hl0x : i0 + 1 ≤ 5) : Met l yL_isReleased wsL_isReleased ({ frames := 12, cells := 2554, slots := 41100, locals := 277 }) (ft_PM D k Z sz a σ [.ref a, .int x2]) (ft_QR J D k Z sz a (jc0 + 0) (fun z u => z = 1 ∧ u.1 0 = σ.1 0 ∧ ft_zv σ u)) 2554 41100 (ft_AL sz) := by
  refine Met.ofW (cc := cL_isReleased) (maxL := 10) (ret := (some .boolean)) (by decide) rfl ?_
  intro p e s m args below meth c s₁ B hml hv
  obtain ⟨hargs, hP, hEL, hz⟩ := hv
  have hE := hEL.1
  subst hargs
  have hx := B.exec
  have hb := B.bytes
  have hr := B.returns
  have hts := atoms_spec (ws := wsL_isReleased) B.pre
  have hown : s.vm.findClass RL = some m.cls := findClass_of_methodNamed B.named
  have hlocks := B.notSynchronized
  have hS : va_S (ft_AL sz) s.heap s.heap [] := va_S.rf
  have hg : G r := hJ.gr h0 (by omega) hq
  have hl := lv_entry ([.ref a, .int x2]) (n := 10) (Nat.le_of_ble_eq_true rfl)
  rw [lg_entry_eq]
  generalize (lg_sl ([.ref a, .int x2]) ++ List.replicate (10 - (lg_sl ([.ref a, .int x2])).length) Slot.unset).toArray = ls at hl ⊢
  have hl : lv_has ls 10 [(0, .ref (a)), (1, .int (x2))] := hl
  refine lv_aload_n hx hb dL_isReleased_0 rfl (lv_at hl 0 rfl) ?_
  refine va_calll (va_runS (As := [.ref (a)]) (rest := []) ⟨hx, hb, hml, hown, hts⟩ (c_L_digest l hl0 D Z k sz a σ r hq (hJ.dN hg) (hJ.dT hg) (hJ.dQ hg) (hJ.dW hg)) (va_cwS 1 hts gL_isReleased_L_digest rfl rfl rfl (by decide +kernel) ⟨Nat.le_of_ble_eq_true rfl, Nat.le_of_ble_eq_true rfl⟩) (ft_preM hEL hz hS hP) rfl rfl hl.1 rfl (lv_room (Nat.le_of_ble_eq_true rfl)) dL_isReleased_1 ⟨Nat.le_of_ble_eq_true rfl, Nat.le_of_ble_eq_true rfl⟩) hS (fun _ _ h => h) (fun _ h => h) (fun z u t H1 locs1 ht hvm hw hB hz1 hk1 hS1 => ?_)
  obtain rfl : z = (s_L_digest r) := hw
  rw [ht] at hB
  have hP := hB
  have hS := hS1
  clear hS1
  generalize H1 = H at hP hS ⊢
  refine W.widen (k := 431) (n := 2586) (by omega) (by omega) ?_
  refine lv_lstore_n (lv' := [(2, .long (s_L_digest r)), (0, .ref (a)), (1, .int (x2))]) hx hb dL_isReleased_4 rfl hl (by decide) rfl (fun ls hl => ?_)
  refine lv_aload_n hx hb dL_isReleased_5 rfl (lv_at hl 1 rfl) ?_
  refine vp_callSi (va_Run.run (va_runV (As := []) (rest := []) ⟨hx, hb, hml, hown, hts⟩ (cl_day l D Z k sz a σ) (cwV 0 hts gL_isReleased_X7_day rfl rfl rfl (by decide +kernel) ⟨Nat.le_of_ble_eq_true rfl, Nat.le_of_ble_eq_true rfl⟩) (ft_preL hE hz hS hP) rfl rfl hl.1 rfl (lv_room (Nat.le_of_ble_eq_true rfl)) dL_isReleased_6 ⟨Nat.le_of_ble_eq_true rfl, Nat.le_of_ble_eq_true rfl⟩)) (fun z hz9 => ?_)
  replace hz9 : z = l_day (ft_nr r) := hz9.trans (ft_ev (f := fun q9 => l_day (ft_nr q9)) hq rfl)
  subst hz9
  refine lv_bipush (v := 7) hx hb dL_isReleased_9 (by decide) ?_
  refine lv_irem hx hb dL_isReleased_11 (by decide) ?_
  refine lv_istore (lv' := [(4, .int ((l_day (ft_nr r)) - (l_day (ft_nr r)) / 7 * 7)), (2, .long (s_L_digest r)), (0, .ref (a)), (1, .int (x2))]) hx hb dL_isReleased_12 hl (by decide) rfl (fun ls hl => ?_)
  refine lv_aload_n hx hb dL_isReleased_14 rfl (lv_at hl 2 rfl) ?_
  refine lv_iload_n hx hb dL_isReleased_15 rfl (lv_at hl 3 rfl) ?_
  refine lv_iload hx hb dL_isReleased_16 (lv_at hl 0 rfl) ?_
  refine va_calli (vx_runSW (As := [.ref (a), .int (x2), .int ((l_day (ft_nr r)) - (l_day (ft_nr r)) / 7 * 7)]) (rest := []) ⟨hx, hb, hml, hown, hts⟩ (d_L_truckAt l hl0 D Z k sz a σ x2 ((l_day (ft_nr r)) - (l_day (ft_nr r)) / 7 * 7) (ex_truckAt)) (vx_cwSW 3 hts gL_isReleased_L_truckAt rfl rfl rfl (by decide +kernel) ⟨Nat.le_of_ble_eq_true rfl, Nat.le_of_ble_eq_true rfl⟩) (ft_preM hEL hz hS hP) rfl rfl hl.1 rfl (lv_room (Nat.le_of_ble_eq_true rfl)) dL_isReleased_18 ⟨Nat.le_of_ble_eq_true rfl, Nat.le_of_ble_eq_true rfl⟩) hS (fun _ _ h => h) (fun _ h => h) (fun z u t H1 locs1 ht hvm hw hB hz1 hk1 hS1 => ?_)
  obtain rfl : z = w_truckAt (ft_nr r) x2 ((l_day (ft_nr r)) - (l_day (ft_nr r)) / 7 * 7) := hw.trans (ft_ev (f := fun q9 => w_truckAt (ft_nr q9) x2 ((l_day (ft_nr r)) - (l_day (ft_nr r)) / 7 * 7)) hq rfl)
  rw [ht] at hB
  have hP := hB
  have hS := hS1
  clear hS1
  generalize H1 = H at hP hS ⊢
  refine W.widen (k := 434) (n := 2604) (by omega) (by omega) ?_
  refine lv_istore (lv' := [(5, .int ((w_truckAt (ft_nr r) x2 ((l_day (ft_nr r)) - (l_day (ft_nr r)) / 7 * 7)))), (4, .int ((l_day (ft_nr r)) - (l_day (ft_nr r)) / 7 * 7)), (2, .long (s_L_digest r)), (0, .ref (a)), (1, .int (x2))]) hx hb dL_isReleased_21 hl (by decide) rfl (fun ls hl => ?_)
  refine lv_iload hx hb dL_isReleased_23 (lv_at hl 0 rfl) ?_
  refine lv_sipush (v := (-1000)) hx hb dL_isReleased_25 (by decide) ?_
  refine lv_icmp_ne (tgt := 35) hx hb dL_isReleased_28 (by decide) (fun c_28 => ?_) (fun c_28 => ?_)
  · skip
    refine lv_aload_n hx hb dL_isReleased_35 rfl (lv_at hl 3 rfl) ?_
    refine lv_iload hx hb dL_isReleased_36 (lv_at hl 0 rfl) ?_
    refine va_calli (va_runV (As := [.int ((w_truckAt (ft_nr r) x2 ((l_day (ft_nr r)) - (l_day (ft_nr r)) / 7 * 7)))]) (rest := []) ⟨hx, hb, hml, hown, hts⟩ (ft_noX (z := p_queueLength (ft_nr r) (w_truckAt (ft_nr r) x2 ((l_day (ft_nr r)) - (l_day (ft_nr r)) / 7 * 7))) (cl_queueLength l hl0 D Z k sz a σ (w_truckAt (ft_nr r) x2 ((l_day (ft_nr r)) - (l_day (ft_nr r)) / 7 * 7)) ) (ft_ev (f := fun q9 => l_queueLength (ft_nr q9) (w_truckAt (ft_nr r) x2 ((l_day (ft_nr r)) - (l_day (ft_nr r)) / 7 * 7))) hq (ok_queueLength (hJ.d3 hg _ i0 hi0 hl0x c_28).2))) (cwV 1 hts gL_isReleased_X7_queueLength rfl rfl rfl (by decide +kernel) ⟨Nat.le_of_ble_eq_true rfl, Nat.le_of_ble_eq_true rfl⟩) (ft_preL hE hz hS hP) rfl rfl hl.1 rfl (lv_room (Nat.le_of_ble_eq_true rfl)) dL_isReleased_38 ⟨Nat.le_of_ble_eq_true rfl, Nat.le_of_ble_eq_true rfl⟩) hS (fun _ _ h => h) (fun _ h => h) (fun z u t H1 locs1 ht hvm hw hB hz1 hk1 hS1 => ?_)
    obtain rfl : p_queueLength (ft_nr r) (w_truckAt (ft_nr r) x2 ((l_day (ft_nr r)) - (l_day (ft_nr r)) / 7 * 7)) = z := Eq.symm hw
    rw [ht] at hB
    have hP := hB
    have hS := hS1
    clear hS1
    generalize H1 = H at hP hS ⊢
    refine W.widen (k := 435) (n := 2610) (by omega) (by omega) ?_
    refine lv_istore (lv' := [(6, .int ((p_queueLength (ft_nr r) (w_truckAt (ft_nr r) x2 ((l_day (ft_nr r)) - (l_day (ft_nr r)) / 7 * 7))))), (5, .int ((w_truckAt (ft_nr r) x2 ((l_day (ft_nr r)) - (l_day (ft_nr r)) / 7 * 7)))), (4, .int ((l_day (ft_nr r)) - (l_day (ft_nr r)) / 7 * 7)), (2, .long (s_L_digest r)), (0, .ref (a)), (1, .int (x2))]) hx hb dL_isReleased_41 hl (by decide) rfl (fun ls hl => ?_)
    refine lv_aload_n hx hb dL_isReleased_43 rfl (lv_at hl 4 rfl) ?_
    refine vp_callSi (va_Run.run (va_runV (As := []) (rest := []) ⟨hx, hb, hml, hown, hts⟩ (cl_disappointedTotal l D Z k sz a σ) (cwV 0 hts gL_isReleased_X7_disappointedTotal rfl rfl rfl (by decide +kernel) ⟨Nat.le_of_ble_eq_true rfl, Nat.le_of_ble_eq_true rfl⟩) (ft_preL hE hz hS hP) rfl rfl hl.1 rfl (lv_room (Nat.le_of_ble_eq_true rfl)) dL_isReleased_44 ⟨Nat.le_of_ble_eq_true rfl, Nat.le_of_ble_eq_true rfl⟩)) (fun z hz9 => ?_)
    replace hz9 : z = l_disappointedTotal (ft_nr r) := hz9.trans (ft_ev (f := fun q9 => l_disappointedTotal (ft_nr q9)) hq rfl)
    subst hz9
    refine lv_istore (lv' := [(7, .int ((l_disappointedTotal (ft_nr r)))), (6, .int ((p_queueLength (ft_nr r) (w_truckAt (ft_nr r) x2 ((l_day (ft_nr r)) - (l_day (ft_nr r)) / 7 * 7))))), (5, .int ((w_truckAt (ft_nr r) x2 ((l_day (ft_nr r)) - (l_day (ft_nr r)) / 7 * 7)))), (4, .int ((l_day (ft_nr r)) - (l_day (ft_nr r)) / 7 * 7)), (2, .long (s_L_digest r)), (0, .ref (a)), (1, .int (x2))]) hx hb dL_isReleased_47 hl (by decide) rfl (fun ls hl => ?_)
    refine lv_aload_n hx hb dL_isReleased_49 rfl (lv_at hl 5 rfl) ?_
    refine lv_iload_n hx hb dL_isReleased_50 rfl (lv_at hl 6 rfl) ?_
    refine lv_iload hx hb dL_isReleased_51 (lv_at hl 3 rfl) ?_
    refine va_calli (vx_runSW (As := [.ref (a), .int (x2), .int ((l_day (ft_nr r)) - (l_day (ft_nr r)) / 7 * 7)]) (rest := []) ⟨hx, hb, hml, hown, hts⟩ (d_L_release l hl0 D Z k sz a σ x2 ((l_day (ft_nr r)) - (l_day (ft_nr r)) / 7 * 7) (hJ.pm h0) (hJ.ex_release _ _ h0 (by omega))) (vx_cwSW 3 hts gL_isReleased_L_release rfl rfl rfl (by decide +kernel) ⟨Nat.le_of_ble_eq_true rfl, Nat.le_of_ble_eq_true rfl⟩) (ft_preM hEL hz hS hP) rfl rfl hl.1 rfl (lv_room (Nat.le_of_ble_eq_true rfl)) dL_isReleased_53 ⟨Nat.le_of_ble_eq_true rfl, Nat.le_of_ble_eq_true rfl⟩) hS (fun _ _ h => h) (fun _ h => h) (fun z u t H1 locs1 ht hvm hw hB hz1 hk1 hS1 => ?_)
    obtain ⟨rfl, rfl⟩ : z = (w_truckAt (ft_nr r) x2 ((l_day (ft_nr r)) - (l_day (ft_nr r)) / 7 * 7)) ∧ u = (w_release σ x2 ((l_day (ft_nr r)) - (l_day (ft_nr r)) / 7 * 7)).2 := ⟨(congrArg Prod.fst hw).trans ((hJ.d2 h0 (by omega) hq _ i0 hi0 hl0x c_28).1), congrArg Prod.snd hw⟩
    rw [ht] at hB
    have hP := hB
    have hS := hS1
    clear hS1
    generalize H1 = H at hP hS ⊢
    refine W.widen (k := 436) (n := 2616) (by omega) (by omega) ?_
    have hJ_53_0 : J (jc0 + 0) (w_release σ x2 ((l_day (ft_nr r)) - (l_day (ft_nr r)) / 7 * 7)).2 := hJ.mono (hJ.k_release _ _ h0 (by omega)) (by omega)
    have hq_53_1 : (w_release σ x2 ((l_day (ft_nr r)) - (l_day (ft_nr r)) / 7 * 7)).2.1 0 = (ft_rl r x2 (ft_td r)) := (hJ.d2 h0 (by omega) hq _ i0 hi0 hl0x c_28).2.1
    have hg_53_1 : G (ft_rl r x2 (ft_td r)) := hJ.gr hJ_53_0 (by omega) hq_53_1
    have hv_53 : ft_zv σ ((w_release σ x2 ((l_day (ft_nr r)) - (l_day (ft_nr r)) / 7 * 7)).2) := hJ.sv_release _ _ h0
    have hU_53 : ft_U r ((w_release σ x2 ((l_day (ft_nr r)) - (l_day (ft_nr r)) / 7 * 7)).2) := (hJ.d2 h0 (by omega) hq _ i0 hi0 hl0x c_28).2.2
    refine lv_istore (lv' := [(8, .int ((w_truckAt (ft_nr r) x2 ((l_day (ft_nr r)) - (l_day (ft_nr r)) / 7 * 7)))), (7, .int ((l_disappointedTotal (ft_nr r)))), (6, .int ((p_queueLength (ft_nr r) (w_truckAt (ft_nr r) x2 ((l_day (ft_nr r)) - (l_day (ft_nr r)) / 7 * 7))))), (5, .int ((w_truckAt (ft_nr r) x2 ((l_day (ft_nr r)) - (l_day (ft_nr r)) / 7 * 7)))), (4, .int ((l_day (ft_nr r)) - (l_day (ft_nr r)) / 7 * 7)), (2, .long (s_L_digest r)), (0, .ref (a)), (1, .int (x2))]) hx hb dL_isReleased_56 hl (by decide) rfl (fun ls hl => ?_)
    refine lv_iload hx hb dL_isReleased_58 (lv_at hl 0 rfl) ?_
    refine lv_ldc hx hb hown (hts (.constant RL 10 (-100000000)) (by decide +kernel)) dL_isReleased_60 ?_
    refine lv_icmp_ne (tgt := 88) hx hb dL_isReleased_62 (by decide) (fun c_62 => ?_) (fun c_62 => ?_)
    · skip
      refine lv_iload hx hb dL_isReleased_88 (lv_at hl 0 rfl) ?_
      refine lv_iload hx hb dL_isReleased_90 (lv_at hl 3 rfl) ?_
      refine lv_icmp_ne (tgt := 143) hx hb dL_isReleased_92 (by decide) (fun c_92 => ?_) (fun c_92 => ?_)
      · skip
        exact absurd (rfl) c_92
      · skip
        refine lv_aload_n hx hb dL_isReleased_95 rfl (lv_at hl 6 rfl) ?_
        refine vp_callSi (va_Run.run (va_runV (As := []) (rest := []) ⟨hx, hb, hml, hown, hts⟩ (cl_disappointedTotal l D Z k sz a ((w_release σ x2 ((l_day (ft_nr r)) - (l_day (ft_nr r)) / 7 * 7)).2)) (cwV 0 hts gL_isReleased_X7_disappointedTotal rfl rfl rfl (by decide +kernel) ⟨Nat.le_of_ble_eq_true rfl, Nat.le_of_ble_eq_true rfl⟩) (ft_preL hE hz hS hP) rfl rfl hl.1 rfl (lv_room (Nat.le_of_ble_eq_true rfl)) dL_isReleased_96 ⟨Nat.le_of_ble_eq_true rfl, Nat.le_of_ble_eq_true rfl⟩)) (fun z hz9 => ?_)
        replace hz9 : z = l_disappointedTotal (ft_nr (ft_rl r x2 (ft_td r))) := hz9.trans (ft_ev (f := fun q9 => l_disappointedTotal (ft_nr q9)) hq_53_1 rfl)
        subst hz9
        refine lv_iload hx hb dL_isReleased_99 (lv_at hl 1 rfl) ?_
        refine lv_iload hx hb dL_isReleased_101 (lv_at hl 2 rfl) ?_
        refine lv_iadd hx hb dL_isReleased_103 ?_
        refine lv_icmp_ne (tgt := 143) hx hb dL_isReleased_104 (by decide) (fun c_104 => ?_) (fun c_104 => ?_)
        · skip
          exact absurd (hJ.d5 hg _ i0 hi0 hl0x c_28) c_104
        · skip
          refine lv_aload_n hx hb dL_isReleased_107 rfl (lv_at hl 6 rfl) ?_
          refine lv_iload hx hb dL_isReleased_108 (lv_at hl 3 rfl) ?_
          refine va_calli (va_runV (As := [.int ((w_truckAt (ft_nr r) x2 ((l_day (ft_nr r)) - (l_day (ft_nr r)) / 7 * 7)))]) (rest := []) ⟨hx, hb, hml, hown, hts⟩ (ft_noX (z := 0) (cl_isOpen l hl0 D Z k sz a ((w_release σ x2 ((l_day (ft_nr r)) - (l_day (ft_nr r)) / 7 * 7)).2) (w_truckAt (ft_nr r) x2 ((l_day (ft_nr r)) - (l_day (ft_nr r)) / 7 * 7)) ) (ft_ev (f := fun q9 => l_isOpen (ft_nr q9) (w_truckAt (ft_nr r) x2 ((l_day (ft_nr r)) - (l_day (ft_nr r)) / 7 * 7))) hq_53_1 ((hJ.d6 hg _ i0 hi0 hl0x c_28).1))) (cwV 1 hts gL_isReleased_X7_isOpen rfl rfl rfl (by decide +kernel) ⟨Nat.le_of_ble_eq_true rfl, Nat.le_of_ble_eq_true rfl⟩) (ft_preL hE hz hS hP) rfl rfl hl.1 rfl (lv_room (Nat.le_of_ble_eq_true rfl)) dL_isReleased_110 ⟨Nat.le_of_ble_eq_true rfl, Nat.le_of_ble_eq_true rfl⟩) hS (fun _ _ h => h) (fun _ h => h) (fun z u t H1 locs1 ht hvm hw hB hz1 hk1 hS1 => ?_)
          obtain rfl : 0 = z := Eq.symm hw
          rw [ht] at hB
          have hP := hB
          have hS := hS1
          clear hS1
          generalize H1 = H at hP hS ⊢
          refine W.widen (k := 437) (n := 2622) (by omega) (by omega) ?_
          refine lv_if_ne (tgt := 143) hx hb dL_isReleased_113 (by decide) (fun c_113 => ?_) (fun c_113 => ?_)
          · skip
            first | exact absurd c_113 (by decide) | exact absurd (by decide) c_113
          · skip
            refine lv_aload_n hx hb dL_isReleased_116 rfl (lv_at hl 6 rfl) ?_
            refine lv_iload hx hb dL_isReleased_117 (lv_at hl 3 rfl) ?_
            refine va_calli (va_runV (As := [.int ((w_truckAt (ft_nr r) x2 ((l_day (ft_nr r)) - (l_day (ft_nr r)) / 7 * 7)))]) (rest := []) ⟨hx, hb, hml, hown, hts⟩ (ft_noX (z := 0) (cl_queueLength l hl0 D Z k sz a ((w_release σ x2 ((l_day (ft_nr r)) - (l_day (ft_nr r)) / 7 * 7)).2) (w_truckAt (ft_nr r) x2 ((l_day (ft_nr r)) - (l_day (ft_nr r)) / 7 * 7)) ) (ft_ev (f := fun q9 => l_queueLength (ft_nr q9) (w_truckAt (ft_nr r) x2 ((l_day (ft_nr r)) - (l_day (ft_nr r)) / 7 * 7))) hq_53_1 ((hJ.d6 hg _ i0 hi0 hl0x c_28).2))) (cwV 1 hts gL_isReleased_X7_queueLength rfl rfl rfl (by decide +kernel) ⟨Nat.le_of_ble_eq_true rfl, Nat.le_of_ble_eq_true rfl⟩) (ft_preL hE hz hS hP) rfl rfl hl.1 rfl (lv_room (Nat.le_of_ble_eq_true rfl)) dL_isReleased_119 ⟨Nat.le_of_ble_eq_true rfl, Nat.le_of_ble_eq_true rfl⟩) hS (fun _ _ h => h) (fun _ h => h) (fun z u t H1 locs1 ht hvm hw hB hz1 hk1 hS1 => ?_)
            obtain rfl : 0 = z := Eq.symm hw
            rw [ht] at hB
            have hP := hB
            have hS := hS1
            clear hS1
            generalize H1 = H at hP hS ⊢
            refine W.widen (k := 438) (n := 2628) (by omega) (by omega) ?_
            refine lv_if_ne (tgt := 143) hx hb dL_isReleased_122 (by decide) (fun c_122 => ?_) (fun c_122 => ?_)
            · skip
              first | exact absurd c_122 (by decide) | exact absurd (by decide) c_122
            · skip
              refine lv_aload_n hx hb dL_isReleased_125 rfl (lv_at hl 6 rfl) ?_
              refine va_calli (va_runS (As := [.ref (a)]) (rest := []) ⟨hx, hb, hml, hown, hts⟩ (c_L_areTrucks l hl0 D Z k sz a ((w_release σ x2 ((l_day (ft_nr r)) - (l_day (ft_nr r)) / 7 * 7)).2) J G T hJ (jc0 + 0) hJ_53_0 (by omega) (ft_rl r x2 (ft_td r)) hq_53_1 ) (va_cwS 1 hts gL_isReleased_L_areTrucks rfl rfl rfl (by decide +kernel) ⟨Nat.le_of_ble_eq_true rfl, Nat.le_of_ble_eq_true rfl⟩) (ft_preM hEL hz hS hP) rfl rfl hl.1 rfl (lv_room (Nat.le_of_ble_eq_true rfl)) dL_isReleased_126 ⟨Nat.le_of_ble_eq_true rfl, Nat.le_of_ble_eq_true rfl⟩) hS (fun _ _ h => h) (fun _ h => h) (fun z u_126_1 t H1 locs1 ht hvm hw hB hz1 hk1 hS1 => ?_)
              obtain ⟨hp_u_126_1, hj_u_126_1⟩ := hw
              obtain ⟨hz_u_126_1, hp_u_126_1⟩ := hp_u_126_1
              subst hz_u_126_1
              replace hj_u_126_1 : J (jc0 + 0) u_126_1 := hJ.mono hj_u_126_1 (by omega)
              rw [ht] at hB
              have hP := hB
              have hS := hS1
              clear hS1
              generalize H1 = H at hP hS ⊢
              refine W.widen (k := 1646) (n := 30612) (by omega) (by omega) ?_
              have hq_u_126_1 : u_126_1.1 0 = (ft_rl r x2 (ft_td r)) := (ft_zm.row hp_u_126_1).trans hq_53_1
              have hU_126 : ft_U r u_126_1 := hJ.uU hU_53 hp_u_126_1
              have hv_126 : ft_zv σ u_126_1 := hv_53.tr (hp_u_126_1).v
              refine lv_if_eq (tgt := 143) hx hb dL_isReleased_129 (by decide) (fun c_129 => ?_) (fun c_129 => ?_)
              · skip
                first | exact absurd c_129 (by decide) | exact absurd (by decide) c_129
              · skip
                refine lv_aload_n hx hb dL_isReleased_132 rfl (lv_at hl 6 rfl) ?_
                refine va_calli (va_runS (As := [.ref (a)]) (rest := []) ⟨hx, hb, hml, hown, hts⟩ (c_L_isRota l hl0 D Z k sz a u_126_1 J G T hJ (jc0 + 0) hj_u_126_1 (by omega) (ft_rl r x2 (ft_td r)) hq_u_126_1 ) (va_cwS 1 hts gL_isReleased_L_isRota rfl rfl rfl (by decide +kernel) ⟨Nat.le_of_ble_eq_true rfl, Nat.le_of_ble_eq_true rfl⟩) (ft_preM hEL hz hS hP) rfl rfl hl.1 rfl (lv_room (Nat.le_of_ble_eq_true rfl)) dL_isReleased_133 ⟨Nat.le_of_ble_eq_true rfl, Nat.le_of_ble_eq_true rfl⟩) hS (fun _ _ h => h) (fun _ h => h) (fun z u_133_2 t H1 locs1 ht hvm hw hB hz1 hk1 hS1 => ?_)
                obtain ⟨hp_u_133_2, hj_u_133_2⟩ := hw
                obtain ⟨hz_u_133_2, hp_u_133_2⟩ := hp_u_133_2
                subst hz_u_133_2
                replace hj_u_133_2 : J (jc0 + 0) u_133_2 := hJ.mono hj_u_133_2 (by omega)
                rw [ht] at hB
                have hP := hB
                have hS := hS1
                clear hS1
                generalize H1 = H at hP hS ⊢
                refine W.widen (k := 2122) (n := 38508) (by omega) (by omega) ?_
                have hq_u_133_2 : u_133_2.1 0 = (ft_rl r x2 (ft_td r)) := (ft_zm.row hp_u_133_2).trans hq_u_126_1
                have hU_133 : ft_U r u_133_2 := hJ.uU hU_126 hp_u_133_2
                have hv_133 : ft_zv σ u_133_2 := hv_126.tr (hp_u_133_2).v
                refine lv_if_eq (tgt := 143) hx hb dL_isReleased_136 (by decide) (fun c_136 => ?_) (fun c_136 => ?_)
                · skip
                  first | exact absurd c_136 (by decide) | exact absurd (by decide) c_136
                · skip
                  refine lv_iconst (v := 1) hx hb dL_isReleased_139 (by decide) ?_
                  refine lv_goto (tgt := 144) hx hb dL_isReleased_140 (by decide) ?_
                  refine lv_istore (lv' := [(9, .int (1)), (8, .int ((w_truckAt (ft_nr r) x2 ((l_day (ft_nr r)) - (l_day (ft_nr r)) / 7 * 7)))), (7, .int ((l_disappointedTotal (ft_nr r)))), (6, .int ((p_queueLength (ft_nr r) (w_truckAt (ft_nr r) x2 ((l_day (ft_nr r)) - (l_day (ft_nr r)) / 7 * 7))))), (5, .int ((w_truckAt (ft_nr r) x2 ((l_day (ft_nr r)) - (l_day (ft_nr r)) / 7 * 7)))), (4, .int ((l_day (ft_nr r)) - (l_day (ft_nr r)) / 7 * 7)), (2, .long (s_L_digest r)), (0, .ref (a)), (1, .int (x2))]) hx hb dL_isReleased_144 hl (by decide) rfl (fun ls hl => ?_)
                  refine lv_iload hx hb dL_isReleased_146 (lv_at hl 0 rfl) ?_
                  refine lv_if_eq (tgt := 171) hx hb dL_isReleased_148 (by decide) (fun c_148 => ?_) (fun c_148 => ?_)
                  · skip
                    first | exact absurd c_148 (by decide) | exact absurd (by decide) c_148
                  · skip
                    refine lv_aload_n hx hb dL_isReleased_151 rfl (lv_at hl 7 rfl) ?_
                    refine va_calli (vx_runSW (As := [.ref (a)]) (rest := []) ⟨hx, hb, hml, hown, hts⟩ (d_L_undo l hl0 D Z k sz a u_133_2 (hJ.pm hj_u_133_2) (hJ.ex_undo hj_u_133_2 (by omega))) (vx_cwSW 1 hts gL_isReleased_L_undo rfl rfl rfl (by decide +kernel) ⟨Nat.le_of_ble_eq_true rfl, Nat.le_of_ble_eq_true rfl⟩) (ft_preM hEL hz hS hP) rfl rfl hl.1 rfl (lv_room (Nat.le_of_ble_eq_true rfl)) dL_isReleased_152 ⟨Nat.le_of_ble_eq_true rfl, Nat.le_of_ble_eq_true rfl⟩) hS (fun _ _ h => h) (fun _ h => h) (fun z u t H1 locs1 ht hvm hw hB hz1 hk1 hS1 => ?_)
                    obtain ⟨rfl, rfl⟩ : z = (w_undo u_133_2).1 ∧ u = (w_undo u_133_2).2 := ⟨congrArg Prod.fst hw, congrArg Prod.snd hw⟩
                    rw [ht] at hB
                    have hP := hB
                    have hS := hS1
                    clear hS1
                    generalize H1 = H at hP hS ⊢
                    refine W.widen (k := 2123) (n := 38514) (by omega) (by omega) ?_
                    have hJ_152_3 : J (jc0 + 0) (w_undo u_133_2).2 := hJ.mono (hJ.k_undo hj_u_133_2 (by omega)) (by omega)
                    have hq_152_4 : (w_undo u_133_2).2.1 0 = r := hU_133.2
                    have hg_152_4 : G r := hJ.gr hJ_152_3 (by omega) hq_152_4
                    have hv_152 : ft_zv σ ((w_undo u_133_2).2) := hv_133.tr (hJ.sv_undo hj_u_133_2)
                    refine lv_if_lt (tgt := 171) hx hb dL_isReleased_155 (by decide) (fun c_155 => ?_) (fun c_155 => ?_)
                    · skip
                      exact absurd c_155 (hU_133.1)
                    · skip
                      refine lv_aload_n hx hb dL_isReleased_158 rfl (lv_at hl 7 rfl) ?_
                      refine va_calll (va_runS (As := [.ref (a)]) (rest := []) ⟨hx, hb, hml, hown, hts⟩ (c_L_digest l hl0 D Z k sz a ((w_undo u_133_2).2) r hq_152_4 (hJ.dN hg_152_4) (hJ.dT hg_152_4) (hJ.dQ hg_152_4) (hJ.dW hg_152_4)) (va_cwS 1 hts gL_isReleased_L_digest rfl rfl rfl (by decide +kernel) ⟨Nat.le_of_ble_eq_true rfl, Nat.le_of_ble_eq_true rfl⟩) (ft_preM hEL hz hS hP) rfl rfl hl.1 rfl (lv_room (Nat.le_of_ble_eq_true rfl)) dL_isReleased_159 ⟨Nat.le_of_ble_eq_true rfl, Nat.le_of_ble_eq_true rfl⟩) hS (fun _ _ h => h) (fun _ h => h) (fun z u t H1 locs1 ht hvm hw hB hz1 hk1 hS1 => ?_)
                      obtain rfl : z = (s_L_digest r) := hw
                      rw [ht] at hB
                      have hP := hB
                      have hS := hS1
                      clear hS1
                      generalize H1 = H at hP hS ⊢
                      refine W.widen (k := 2554) (n := 41100) (by omega) (by omega) ?_
                      refine lv_lload_n hx hb dL_isReleased_162 rfl (lv_at hl 6 rfl) ?_
                      refine W.lcmp hx hb dL_isReleased_163 ?_
                      rw [ft_cmp0]
                      refine lv_if_ne (tgt := 171) hx hb dL_isReleased_164 (by decide) (fun c_164 => ?_) (fun c_164 => ?_)
                      · skip
                        first | exact absurd c_164 (by decide) | exact absurd (by decide) c_164
                      · skip
                        refine lv_iconst (v := 1) hx hb dL_isReleased_167 (by decide) ?_
                        refine lv_goto (tgt := 172) hx hb dL_isReleased_168 (by decide) ?_
                        refine W.widen (k := 2554) (n := 41100) (by omega) (by omega) ?_
                        exact W.zret (v := 1) hx hb hr (rfl) (fun t ht hW => ⟨⟨1, (w_undo u_133_2).2, rfl, ⟨⟨rfl, (hq_152_4).trans hq.symm, hv_152⟩, hJ.mono hJ_152_3 (by omega)⟩, by show ft_LW D k Z sz a _ t.heap; rw [ht]; exact hP⟩, hS.F ht⟩) hS.2.2 dL_isReleased_172
    · skip
      exact absurd c_62 ((hJ.d3 hg _ i0 hi0 hl0x c_28).1)
  · skip
    refine lv_iconst (v := 0) hx hb dL_isReleased_31 (by decide) ?_
    refine lv_goto (tgt := 41) hx hb dL_isReleased_32 (by decide) ?_
    refine lv_istore (lv' := [(6, .int (0)), (5, .int ((w_truckAt (ft_nr r) x2 ((l_day (ft_nr r)) - (l_day (ft_nr r)) / 7 * 7)))), (4, .int ((l_day (ft_nr r)) - (l_day (ft_nr r)) / 7 * 7)), (2, .long (s_L_digest r)), (0, .ref (a)), (1, .int (x2))]) hx hb dL_isReleased_41 hl (by decide) rfl (fun ls hl => ?_)
    refine lv_aload_n hx hb dL_isReleased_43 rfl (lv_at hl 4 rfl) ?_
    refine vp_callSi (va_Run.run (va_runV (As := []) (rest := []) ⟨hx, hb, hml, hown, hts⟩ (cl_disappointedTotal l D Z k sz a σ) (cwV 0 hts gL_isReleased_X7_disappointedTotal rfl rfl rfl (by decide +kernel) ⟨Nat.le_of_ble_eq_true rfl, Nat.le_of_ble_eq_true rfl⟩) (ft_preL hE hz hS hP) rfl rfl hl.1 rfl (lv_room (Nat.le_of_ble_eq_true rfl)) dL_isReleased_44 ⟨Nat.le_of_ble_eq_true rfl, Nat.le_of_ble_eq_true rfl⟩)) (fun z hz9 => ?_)
    replace hz9 : z = l_disappointedTotal (ft_nr r) := hz9.trans (ft_ev (f := fun q9 => l_disappointedTotal (ft_nr q9)) hq rfl)
    subst hz9
    refine lv_istore (lv' := [(7, .int ((l_disappointedTotal (ft_nr r)))), (6, .int (0)), (5, .int ((w_truckAt (ft_nr r) x2 ((l_day (ft_nr r)) - (l_day (ft_nr r)) / 7 * 7)))), (4, .int ((l_day (ft_nr r)) - (l_day (ft_nr r)) / 7 * 7)), (2, .long (s_L_digest r)), (0, .ref (a)), (1, .int (x2))]) hx hb dL_isReleased_47 hl (by decide) rfl (fun ls hl => ?_)
    refine lv_aload_n hx hb dL_isReleased_49 rfl (lv_at hl 5 rfl) ?_
    refine lv_iload_n hx hb dL_isReleased_50 rfl (lv_at hl 6 rfl) ?_
    refine lv_iload hx hb dL_isReleased_51 (lv_at hl 3 rfl) ?_
    refine va_calli (vx_runSW (As := [.ref (a), .int (x2), .int ((l_day (ft_nr r)) - (l_day (ft_nr r)) / 7 * 7)]) (rest := []) ⟨hx, hb, hml, hown, hts⟩ (d_L_release l hl0 D Z k sz a σ x2 ((l_day (ft_nr r)) - (l_day (ft_nr r)) / 7 * 7) (hJ.pm h0) (hJ.ex_release _ _ h0 (by omega))) (vx_cwSW 3 hts gL_isReleased_L_release rfl rfl rfl (by decide +kernel) ⟨Nat.le_of_ble_eq_true rfl, Nat.le_of_ble_eq_true rfl⟩) (ft_preM hEL hz hS hP) rfl rfl hl.1 rfl (lv_room (Nat.le_of_ble_eq_true rfl)) dL_isReleased_53 ⟨Nat.le_of_ble_eq_true rfl, Nat.le_of_ble_eq_true rfl⟩) hS (fun _ _ h => h) (fun _ h => h) (fun z u t H1 locs1 ht hvm hw hB hz1 hk1 hS1 => ?_)
    obtain ⟨rfl, rfl⟩ : z = (-100000000) ∧ u = (w_release σ x2 ((l_day (ft_nr r)) - (l_day (ft_nr r)) / 7 * 7)).2 := ⟨(congrArg Prod.fst hw).trans ((hJ.d1 h0 (by omega) hq _ i0 hi0 hl0x c_28).1), congrArg Prod.snd hw⟩
    rw [ht] at hB
    have hP := hB
    have hS := hS1
    clear hS1
    generalize H1 = H at hP hS ⊢
    refine W.widen (k := 435) (n := 2610) (by omega) (by omega) ?_
    have hJ_53_4 : J (jc0 + 0) (w_release σ x2 ((l_day (ft_nr r)) - (l_day (ft_nr r)) / 7 * 7)).2 := hJ.mono (hJ.k_release _ _ h0 (by omega)) (by omega)
    have hq_53_5 : (w_release σ x2 ((l_day (ft_nr r)) - (l_day (ft_nr r)) / 7 * 7)).2.1 0 = r := (hJ.d1 h0 (by omega) hq _ i0 hi0 hl0x c_28).2
    have hv_53 : ft_zv σ ((w_release σ x2 ((l_day (ft_nr r)) - (l_day (ft_nr r)) / 7 * 7)).2) := hJ.sv_release _ _ h0
    refine lv_istore (lv' := [(8, .int ((-100000000))), (7, .int ((l_disappointedTotal (ft_nr r)))), (6, .int (0)), (5, .int ((w_truckAt (ft_nr r) x2 ((l_day (ft_nr r)) - (l_day (ft_nr r)) / 7 * 7)))), (4, .int ((l_day (ft_nr r)) - (l_day (ft_nr r)) / 7 * 7)), (2, .long (s_L_digest r)), (0, .ref (a)), (1, .int (x2))]) hx hb dL_isReleased_56 hl (by decide) rfl (fun ls hl => ?_)
    refine lv_iload hx hb dL_isReleased_58 (lv_at hl 0 rfl) ?_
    refine lv_ldc hx hb hown (hts (.constant RL 10 (-100000000)) (by decide +kernel)) dL_isReleased_60 ?_
    refine lv_icmp_ne (tgt := 88) hx hb dL_isReleased_62 (by decide) (fun c_62 => ?_) (fun c_62 => ?_)
    · skip
      first | exact absurd c_62 (by decide) | exact absurd (by decide) c_62
    · skip
      refine lv_iload hx hb dL_isReleased_65 (lv_at hl 3 rfl) ?_
      refine lv_sipush (v := (-1000)) hx hb dL_isReleased_67 (by decide) ?_
      refine lv_icmp_ne (tgt := 86) hx hb dL_isReleased_70 (by decide) (fun c_70 => ?_) (fun c_70 => ?_)
      · skip
        exact absurd (c_28) c_70
      · skip
        refine lv_aload_n hx hb dL_isReleased_73 rfl (lv_at hl 6 rfl) ?_
        refine va_calll (va_runS (As := [.ref (a)]) (rest := []) ⟨hx, hb, hml, hown, hts⟩ (c_L_digest l hl0 D Z k sz a ((w_release σ x2 ((l_day (ft_nr r)) - (l_day (ft_nr r)) / 7 * 7)).2) r hq_53_5 (hJ.dN hg) (hJ.dT hg) (hJ.dQ hg) (hJ.dW hg)) (va_cwS 1 hts gL_isReleased_L_digest rfl rfl rfl (by decide +kernel) ⟨Nat.le_of_ble_eq_true rfl, Nat.le_of_ble_eq_true rfl⟩) (ft_preM hEL hz hS hP) rfl rfl hl.1 rfl (lv_room (Nat.le_of_ble_eq_true rfl)) dL_isReleased_74 ⟨Nat.le_of_ble_eq_true rfl, Nat.le_of_ble_eq_true rfl⟩) hS (fun _ _ h => h) (fun _ h => h) (fun z u t H1 locs1 ht hvm hw hB hz1 hk1 hS1 => ?_)
        obtain rfl : z = (s_L_digest r) := hw
        rw [ht] at hB
        have hP := hB
        have hS := hS1
        clear hS1
        generalize H1 = H at hP hS ⊢
        refine W.widen (k := 866) (n := 5196) (by omega) (by omega) ?_
        refine lv_lload_n hx hb dL_isReleased_77 rfl (lv_at hl 5 rfl) ?_
        refine W.lcmp hx hb dL_isReleased_78 ?_
        rw [ft_cmp0]
        refine lv_if_ne (tgt := 86) hx hb dL_isReleased_79 (by decide) (fun c_79 => ?_) (fun c_79 => ?_)
        · skip
          first | exact absurd c_79 (by decide) | exact absurd (by decide) c_79
        · skip
          refine lv_iconst (v := 1) hx hb dL_isReleased_82 (by decide) ?_
          refine lv_goto (tgt := 87) hx hb dL_isReleased_83 (by decide) ?_
          refine W.widen (k := 2554) (n := 41100) (by omega) (by omega) ?_
          exact W.zret (v := 1) hx hb hr (rfl) (fun t ht hW => ⟨⟨1, (w_release σ x2 ((l_day (ft_nr r)) - (l_day (ft_nr r)) / 7 * 7)).2, rfl, ⟨⟨rfl, (hq_53_5).trans hq.symm, hv_53⟩, hJ.mono hJ_53_4 (by omega)⟩, by show ft_LW D k Z sz a _ t.heap; rw [ht]; exact hP⟩, hS.F ht⟩) hS.2.2 dL_isReleased_87

set_option maxHeartbeats 4000000 in
set_option maxRecDepth 100000 in
theorem c_L_isFit (l : Launch) (hl0 : l.stackTraces = false) (D : va_G) (Z : Nat → Nat → Nat) (k : Nat → ClassId) (sz : ft_SZ) (a : Nat) (σ : ft_Sg) (J : Nat → ft_Sg → Prop) (G : (Nat → Int32) → Prop) (T : Nat → Nat → ft_Sg → Prop) (hJ : ft_JJ J G T) (jc0 : Nat) (h0 : J jc0 σ) (hc : jc0 + 6 ≤ 1000) (r : Nat → Int32) (hq : σ.1 0 = r) : Met l yL_isFit wsL_isFit ({ frames := 13, cells := 22452, slots := 351564, locals := 311 }) (ft_PM D k Z sz a σ [.ref a]) (ft_QR J D k Z sz a (jc0 + 6) (fun z u => z = 1 ∧ ft_zv σ u)) 22452 351564 (ft_AL sz) := by
  refine Met.ofW (cc := cL_isFit) (maxL := 3) (ret := (some .boolean)) (by decide) rfl ?_
  intro p e s m args below meth c s₁ B hml hv
  obtain ⟨hargs, hP, hEL, hz⟩ := hv
  have hE := hEL.1
  subst hargs
  have hx := B.exec
  have hb := B.bytes
  have hr := B.returns
  have hts := atoms_spec (ws := wsL_isFit) B.pre
  have hown : s.vm.findClass RL = some m.cls := findClass_of_methodNamed B.named
  have hlocks := B.notSynchronized
  have hS : va_S (ft_AL sz) s.heap s.heap [] := va_S.rf
  have hg : G r := hJ.gr h0 (by omega) hq
  have hl := lv_entry ([.ref a]) (n := 3) (Nat.le_of_ble_eq_true rfl)
  rw [lg_entry_eq]
  generalize (lg_sl ([.ref a]) ++ List.replicate (3 - (lg_sl ([.ref a])).length) Slot.unset).toArray = ls at hl ⊢
  have hl : lv_has ls 3 [(0, .ref (a))] := hl
  refine lv_aload_n hx hb dL_isFit_0 rfl (lv_at hl 0 rfl) ?_
  refine va_calli (va_runS (As := [.ref (a)]) (rest := []) ⟨hx, hb, hml, hown, hts⟩ (c_L_isRota l hl0 D Z k sz a σ J G T hJ (jc0 + 0) h0 (by omega) r hq ) (va_cwS 1 hts gL_isFit_L_isRota rfl rfl rfl (by decide +kernel) ⟨Nat.le_of_ble_eq_true rfl, Nat.le_of_ble_eq_true rfl⟩) (ft_preM hEL hz hS hP) rfl rfl hl.1 rfl (lv_room (Nat.le_of_ble_eq_true rfl)) dL_isFit_1 ⟨Nat.le_of_ble_eq_true rfl, Nat.le_of_ble_eq_true rfl⟩) hS (fun _ _ h => h) (fun _ h => h) (fun z u_1_0 t H1 locs1 ht hvm hw hB hz1 hk1 hS1 => ?_)
  obtain ⟨hp_u_1_0, hj_u_1_0⟩ := hw
  obtain ⟨hz_u_1_0, hp_u_1_0⟩ := hp_u_1_0
  subst hz_u_1_0
  replace hj_u_1_0 : J (jc0 + 0) u_1_0 := hJ.mono hj_u_1_0 (by omega)
  rw [ht] at hB
  have hP := hB
  have hS := hS1
  clear hS1
  generalize H1 = H at hP hS ⊢
  refine W.widen (k := 476) (n := 7896) (by omega) (by omega) ?_
  have hq_u_1_0 : u_1_0.1 0 = r := (ft_zm.row hp_u_1_0).trans hq
  have hv_1 : ft_zv σ u_1_0 := (hp_u_1_0).v
  refine lv_if_eq (tgt := 51) hx hb dL_isFit_4 (by decide) (fun c_4 => ?_) (fun c_4 => ?_)
  · skip
    first | exact absurd c_4 (by decide) | exact absurd (by decide) c_4
  · skip
    refine lv_aload_n hx hb dL_isFit_7 rfl (lv_at hl 0 rfl) ?_
    refine va_calli (va_runS (As := [.ref (a)]) (rest := []) ⟨hx, hb, hml, hown, hts⟩ (c_L_areTrucks l hl0 D Z k sz a u_1_0 J G T hJ (jc0 + 0) hj_u_1_0 (by omega) r hq_u_1_0 ) (va_cwS 1 hts gL_isFit_L_areTrucks rfl rfl rfl (by decide +kernel) ⟨Nat.le_of_ble_eq_true rfl, Nat.le_of_ble_eq_true rfl⟩) (ft_preM hEL hz hS hP) rfl rfl hl.1 rfl (lv_room (Nat.le_of_ble_eq_true rfl)) dL_isFit_8 ⟨Nat.le_of_ble_eq_true rfl, Nat.le_of_ble_eq_true rfl⟩) hS (fun _ _ h => h) (fun _ h => h) (fun z u_8_1 t H1 locs1 ht hvm hw hB hz1 hk1 hS1 => ?_)
    obtain ⟨hp_u_8_1, hj_u_8_1⟩ := hw
    obtain ⟨hz_u_8_1, hp_u_8_1⟩ := hp_u_8_1
    subst hz_u_8_1
    replace hj_u_8_1 : J (jc0 + 0) u_8_1 := hJ.mono hj_u_8_1 (by omega)
    rw [ht] at hB
    have hP := hB
    have hS := hS1
    clear hS1
    generalize H1 = H at hP hS ⊢
    refine W.widen (k := 1684) (n := 35880) (by omega) (by omega) ?_
    have hq_u_8_1 : u_8_1.1 0 = r := (ft_zm.row hp_u_8_1).trans hq_u_1_0
    have hv_8 : ft_zv σ u_8_1 := hv_1.tr (hp_u_8_1).v
    refine lv_if_eq (tgt := 51) hx hb dL_isFit_11 (by decide) (fun c_11 => ?_) (fun c_11 => ?_)
    · skip
      first | exact absurd c_11 (by decide) | exact absurd (by decide) c_11
    · skip
      refine lv_aload_n hx hb dL_isFit_14 rfl (lv_at hl 0 rfl) ?_
      refine va_calli (va_runS (As := [.ref (a)]) (rest := []) ⟨hx, hb, hml, hown, hts⟩ (c_L_areRanked l hl0 D Z k sz a u_8_1 J G T hJ (jc0 + 0) hj_u_8_1 (by omega) r hq_u_8_1 ) (va_cwS 1 hts gL_isFit_L_areRanked rfl rfl rfl (by decide +kernel) ⟨Nat.le_of_ble_eq_true rfl, Nat.le_of_ble_eq_true rfl⟩) (ft_preM hEL hz hS hP) rfl rfl hl.1 rfl (lv_room (Nat.le_of_ble_eq_true rfl)) dL_isFit_15 ⟨Nat.le_of_ble_eq_true rfl, Nat.le_of_ble_eq_true rfl⟩) hS (fun _ _ h => h) (fun _ h => h) (fun z u_15_2 t H1 locs1 ht hvm hw hB hz1 hk1 hS1 => ?_)
      obtain ⟨hp_u_15_2, hj_u_15_2⟩ := hw
      obtain ⟨hz_u_15_2, hp_u_15_2⟩ := hp_u_15_2
      subst hz_u_15_2
      replace hj_u_15_2 : J (jc0 + 0) u_15_2 := hJ.mono hj_u_15_2 (by omega)
      rw [ht] at hB
      have hP := hB
      have hS := hS1
      clear hS1
      generalize H1 = H at hP hS ⊢
      refine W.widen (k := 1804) (n := 36600) (by omega) (by omega) ?_
      have hq_u_15_2 : u_15_2.1 0 = r := (ft_zm.row hp_u_15_2).trans hq_u_8_1
      have hv_15 : ft_zv σ u_15_2 := hv_8.tr (hp_u_15_2).v
      refine lv_if_eq (tgt := 51) hx hb dL_isFit_18 (by decide) (fun c_18 => ?_) (fun c_18 => ?_)
      · skip
        first | exact absurd c_18 (by decide) | exact absurd (by decide) c_18
      · skip
        refine lv_aload_n hx hb dL_isFit_21 rfl (lv_at hl 0 rfl) ?_
        refine lv_iconst (v := 1) hx hb dL_isFit_22 (by decide) ?_
        refine va_calli (va_runS (As := [.ref (a), .int (1)]) (rest := []) ⟨hx, hb, hml, hown, hts⟩ (c_L_isPassing l hl0 D Z k sz a u_15_2 J G T hJ (jc0 + 0) hj_u_15_2 (by omega) r hq_u_15_2 1 ⟨by decide, by decide⟩) (va_cwS 2 hts gL_isFit_L_isPassing rfl rfl rfl (by decide +kernel) ⟨Nat.le_of_ble_eq_true rfl, Nat.le_of_ble_eq_true rfl⟩) (ft_preM hEL hz hS hP) rfl rfl hl.1 rfl (lv_room (Nat.le_of_ble_eq_true rfl)) dL_isFit_23 ⟨Nat.le_of_ble_eq_true rfl, Nat.le_of_ble_eq_true rfl⟩) hS (fun _ _ h => h) (fun _ h => h) (fun z u_23_3 t H1 locs1 ht hvm hw hB hz1 hk1 hS1 => ?_)
        obtain ⟨hp_u_23_3, hj_u_23_3⟩ := hw
        obtain ⟨hz_u_23_3, hp_u_23_3⟩ := hp_u_23_3
        subst hz_u_23_3
        replace hj_u_23_3 : J (jc0 + 2) u_23_3 := hJ.mono hj_u_23_3 (by omega)
        rw [ht] at hB
        have hP := hB
        have hS := hS1
        clear hS1
        generalize H1 = H at hP hS ⊢
        refine W.widen (k := 4430) (n := 73088) (by omega) (by omega) ?_
        have hq_u_23_3 : u_23_3.1 0 = r := (hp_u_23_3.1).trans hq_u_15_2
        have hv_23 : ft_zv σ u_23_3 := hv_15.tr (hp_u_23_3).2
        refine lv_if_eq (tgt := 51) hx hb dL_isFit_26 (by decide) (fun c_26 => ?_) (fun c_26 => ?_)
        · skip
          first | exact absurd c_26 (by decide) | exact absurd (by decide) c_26
        · skip
          refine lv_aload_n hx hb dL_isFit_29 rfl (lv_at hl 0 rfl) ?_
          refine lv_bipush (v := 11) hx hb dL_isFit_30 (by decide) ?_
          refine va_calli (va_runS (As := [.ref (a), .int (11)]) (rest := []) ⟨hx, hb, hml, hown, hts⟩ (c_L_isPassing l hl0 D Z k sz a u_23_3 J G T hJ (jc0 + 2) hj_u_23_3 (by omega) r hq_u_23_3 11 ⟨by decide, by decide⟩) (va_cwS 2 hts gL_isFit_L_isPassing rfl rfl rfl (by decide +kernel) ⟨Nat.le_of_ble_eq_true rfl, Nat.le_of_ble_eq_true rfl⟩) (ft_preM hEL hz hS hP) rfl rfl hl.1 rfl (lv_room (Nat.le_of_ble_eq_true rfl)) dL_isFit_32 ⟨Nat.le_of_ble_eq_true rfl, Nat.le_of_ble_eq_true rfl⟩) hS (fun _ _ h => h) (fun _ h => h) (fun z u_32_4 t H1 locs1 ht hvm hw hB hz1 hk1 hS1 => ?_)
          obtain ⟨hp_u_32_4, hj_u_32_4⟩ := hw
          obtain ⟨hz_u_32_4, hp_u_32_4⟩ := hp_u_32_4
          subst hz_u_32_4
          replace hj_u_32_4 : J (jc0 + 4) u_32_4 := hJ.mono hj_u_32_4 (by omega)
          rw [ht] at hB
          have hP := hB
          have hS := hS1
          clear hS1
          generalize H1 = H at hP hS ⊢
          refine W.widen (k := 7056) (n := 109576) (by omega) (by omega) ?_
          have hq_u_32_4 : u_32_4.1 0 = r := (hp_u_32_4.1).trans hq_u_23_3
          have hv_32 : ft_zv σ u_32_4 := hv_23.tr (hp_u_32_4).2
          refine lv_if_eq (tgt := 51) hx hb dL_isFit_35 (by decide) (fun c_35 => ?_) (fun c_35 => ?_)
          · skip
            first | exact absurd c_35 (by decide) | exact absurd (by decide) c_35
          · skip
            refine lv_aload_n hx hb dL_isFit_38 rfl (lv_at hl 0 rfl) ?_
            refine lv_bipush (v := 60) hx hb dL_isFit_39 (by decide) ?_
            refine va_calli (va_runS (As := [.ref (a), .int (60)]) (rest := []) ⟨hx, hb, hml, hown, hts⟩ (c_L_isPassing l hl0 D Z k sz a u_32_4 J G T hJ (jc0 + 4) hj_u_32_4 (by omega) r hq_u_32_4 60 ⟨by decide, by decide⟩) (va_cwS 2 hts gL_isFit_L_isPassing rfl rfl rfl (by decide +kernel) ⟨Nat.le_of_ble_eq_true rfl, Nat.le_of_ble_eq_true rfl⟩) (ft_preM hEL hz hS hP) rfl rfl hl.1 rfl (lv_room (Nat.le_of_ble_eq_true rfl)) dL_isFit_41 ⟨Nat.le_of_ble_eq_true rfl, Nat.le_of_ble_eq_true rfl⟩) hS (fun _ _ h => h) (fun _ h => h) (fun z u_41_5 t H1 locs1 ht hvm hw hB hz1 hk1 hS1 => ?_)
            obtain ⟨hp_u_41_5, hj_u_41_5⟩ := hw
            obtain ⟨hz_u_41_5, hp_u_41_5⟩ := hp_u_41_5
            subst hz_u_41_5
            replace hj_u_41_5 : J (jc0 + 6) u_41_5 := hJ.mono hj_u_41_5 (by omega)
            rw [ht] at hB
            have hP := hB
            have hS := hS1
            clear hS1
            generalize H1 = H at hP hS ⊢
            refine W.widen (k := 9682) (n := 146064) (by omega) (by omega) ?_
            have hq_u_41_5 : u_41_5.1 0 = r := (hp_u_41_5.1).trans hq_u_32_4
            have hv_41 : ft_zv σ u_41_5 := hv_32.tr (hp_u_41_5).2
            refine lv_if_eq (tgt := 51) hx hb dL_isFit_44 (by decide) (fun c_44 => ?_) (fun c_44 => ?_)
            · skip
              first | exact absurd c_44 (by decide) | exact absurd (by decide) c_44
            · skip
              refine lv_iconst (v := 1) hx hb dL_isFit_47 (by decide) ?_
              refine lv_goto (tgt := 52) hx hb dL_isFit_48 (by decide) ?_
              refine lv_istore_n (lv' := [(1, .int (1)), (0, .ref (a))]) hx hb dL_isFit_52 rfl hl (by decide) rfl (fun ls hl => ?_)
              refine lv_iconst (v := 0) hx hb dL_isFit_53 (by decide) ?_
              refine lv_istore_n (lv' := [(2, .int (0)), (1, .int (1)), (0, .ref (a))]) hx hb dL_isFit_54 rfl hl (by decide) rfl (fun ls hl => ?_)
              have loop_55 : ∀ (hKx : ∀ (y2_55 : Int32) (σ55 : ft_Sg) (i_55 : Nat) (hi_55 : y2_55 = nI i_55) (hm_55 : i_55 ≤ tn 5) (hx_55 : i_55 = tn 5) (hj_55 : J (jc0 + 6) σ55) (hq_55 : σ55.1 0 = r) (hv_55 : ft_zv σ σ55) (H : Heap) (locs : List Loc) (hP : ft_LW D k Z sz a σ55 H) (hS : va_S (ft_AL sz) s.heap H locs) (ls : Array Slot) (hl : lv_has ls 3 [(0, .ref (a)), (1, .int (1)), (2, .int (y2_55))]), W p l e (headSpec wsL_isFit ({ frames := 13, cells := 22452, slots := 351564, locals := 311 })).room s m ([.ref a] : List Value).toArray below meth c H locs (9682 + 12770) (146064 + 205500) (MQ below (ft_QR J D k Z sz a (jc0 + 6) (fun z u => z = 1 ∧ ft_zv σ u)) ([.ref a] : List Value).toArray s 22452 351564 (ft_AL sz)) (F0 m 76 ls [])) (n_55 : Nat), ∀ (y2_55 : Int32) (σ55 : ft_Sg) (i_55 : Nat) (hi_55 : y2_55 = nI i_55) (hm_55 : i_55 ≤ tn 5) (hn_55 : tn 5 < n_55 + i_55) (hj_55 : J (jc0 + 6) σ55) (hq_55 : σ55.1 0 = r) (hv_55 : ft_zv σ σ55) (H : Heap) (locs : List Loc) (hP : ft_LW D k Z sz a σ55 H) (hS : va_S (ft_AL sz) s.heap H locs) (ls : Array Slot) (hl : lv_has ls 3 [(0, .ref (a)), (1, .int (1)), (2, .int (y2_55))]), W p l e (headSpec wsL_isFit ({ frames := 13, cells := 22452, slots := 351564, locals := 311 })).room s m ([.ref a] : List Value).toArray below meth c H locs (9682 + 2554 * i_55) (146064 + 41100 * i_55) (MQ below (ft_QR J D k Z sz a (jc0 + 6) (fun z u => z = 1 ∧ ft_zv σ u)) ([.ref a] : List Value).toArray s 22452 351564 (ft_AL sz)) (F0 m 55 ls []) := by
                intro hKx n_55
                induction n_55 with
                | zero => intro y2_55 σ55 i_55 hi_55 hm_55 hn_55; exact absurd hn_55 (by omega)
                | succ n ih_55 =>
                  intro y2_55 σ55 i_55 hi_55 hm_55 hn_55 hj_55 hq_55 hv_55 H locs hP hS ls hl
                  have hm5_55 : i_55 ≤ 5 := hm_55
                  refine lv_iload_n hx hb dL_isFit_55 rfl (lv_at hl 1 rfl) ?_
                  refine lv_if_eq (tgt := 76) hx hb dL_isFit_56 (by decide) (fun c_56 => ?_) (fun c_56 => ?_)
                  · skip
                    first | exact absurd c_56 (by decide) | exact absurd (by decide) c_56
                  · skip
                    refine lv_iload_n hx hb dL_isFit_59 rfl (lv_at hl 2 rfl) ?_
                    refine lv_iconst (v := 5) hx hb dL_isFit_60 (by decide) ?_
                    refine lv_icmp_ge (tgt := 76) hx hb dL_isFit_61 (by decide) (fun c_61 => ?_) (fun c_61 => ?_)
                    · skip
                      refine W.widen (k := 9682 + 12770) (n := 146064 + 205500) (by omega) (by omega) ?_
                      exact hKx y2_55 σ55 i_55 hi_55 hm_55 (ft_exi hi_55 hm_55 c_61) hj_55 hq_55 hv_55 _ _ hP hS ls (lv_sub hl [0, 1, 2] rfl)
                    · skip
                      have hlt_55 := ft_step hi_55 hm_55 c_61
                      have hl5_55 : i_55 + 1 ≤ 5 := hlt_55
                      refine lv_aload_n hx hb dL_isFit_64 rfl (lv_at hl 0 rfl) ?_
                      refine lv_iload_n hx hb dL_isFit_65 rfl (lv_at hl 2 rfl) ?_
                      refine va_calli (va_runS (As := [.ref (a), .int (y2_55)]) (rest := []) ⟨hx, hb, hml, hown, hts⟩ (c_L_isReleased l hl0 D Z k sz a σ55 J G T hJ (jc0 + 6) hj_55 (by omega) r hq_55 y2_55 i_55 hi_55 hl5_55) (va_cwS 2 hts gL_isFit_L_isReleased rfl rfl rfl (by decide +kernel) ⟨Nat.le_of_ble_eq_true rfl, Nat.le_of_ble_eq_true rfl⟩) (ft_preM hEL hz hS hP) rfl rfl hl.1 rfl (lv_room (Nat.le_of_ble_eq_true rfl)) dL_isFit_66 ⟨(show 9682 + 2554 * i_55 + 2554 ≤ 22452 by omega), (show 146064 + 41100 * i_55 + 41100 ≤ 351564 by omega)⟩) hS (fun _ _ h => h) (fun _ h => h) (fun z u_66_6 t H1 locs1 ht hvm hw hB hz1 hk1 hS1 => ?_)
                      obtain ⟨hp_u_66_6, hj_u_66_6⟩ := hw
                      obtain ⟨hz_u_66_6, hp_u_66_6⟩ := hp_u_66_6
                      subst hz_u_66_6
                      replace hj_u_66_6 : J (jc0 + 6) u_66_6 := hJ.mono hj_u_66_6 (by omega)
                      rw [ht] at hB
                      have hP := hB
                      have hS := hS1
                      clear hS1
                      generalize H1 = H at hP hS ⊢
                      refine W.widen (k := 12236 + 2554 * i_55) (n := 187164 + 41100 * i_55) (by omega) (by omega) ?_
                      have hq_u_66_6 : u_66_6.1 0 = r := (hp_u_66_6.1).trans hq_55
                      have hv_66 : ft_zv σ u_66_6 := hv_55.tr (hp_u_66_6).2
                      refine lv_istore_n (lv' := [(1, .int (1)), (0, .ref (a)), (2, .int (y2_55))]) hx hb dL_isFit_69 rfl hl (by decide) rfl (fun ls hl => ?_)
                      refine lv_iinc (v := y2_55 + 1) (lv' := [(2, .int (y2_55 + 1)), (1, .int (1)), (0, .ref (a))]) hx hb dL_isFit_70 hl (k := 2) rfl rfl (by decide) rfl (fun ls hl => ?_)
                      refine lv_goto (tgt := 55) hx hb dL_isFit_73 (by decide) ?_
                      refine W.widen (k := 9682 + 2554 * (i_55 + 1)) (n := 146064 + 41100 * (i_55 + 1)) (by omega) (by omega) ?_
                      exact ih_55 (y2_55 + 1) u_66_6 (i_55 + 1) (by rw [hi_55, nI_1]) hlt_55 (by omega) (show J (jc0 + 6) u_66_6 from hJ.mono hj_u_66_6 (by omega)) hq_u_66_6 (hv_66) _ _ hP hS ls (lv_sub hl [2, 1, 0] rfl)
              refine W.widen (k := 9682 + 2554 * 0) (n := 146064 + 41100 * 0) (by omega) (by omega) ?_
              refine loop_55 (fun y2_55 σ55 i_55 hi_55 hm_55 hx_55 hj_55 hq_55 hv_55 H locs hP hS ls hl => ?_) (tn 5 + 1) 0 u_41_5 0 rfl (Nat.zero_le _) (by omega) (show J (jc0 + 6) u_41_5 from hJ.mono hj_u_41_5 (by omega)) hq_u_41_5 (hv_41) _ _ hP hS ls (lv_sub hl [2, 1, 0] rfl)
              have hm5_55 : i_55 ≤ 5 := hm_55
              refine W.widen (k := 22452) (n := 351564) (by omega) (by omega) ?_
              refine lv_iload_n hx hb dL_isFit_76 rfl (lv_at hl 1 rfl) ?_
              refine W.widen (k := 22452) (n := 351564) (by omega) (by omega) ?_
              exact W.zret (v := 1) hx hb hr (rfl) (fun t ht hW => ⟨⟨1, σ55, rfl, ⟨⟨rfl, hv_55⟩, hJ.mono hj_55 (by omega)⟩, by show ft_LW D k Z sz a _ t.heap; rw [ht]; exact hP⟩, hS.F ht⟩) hS.2.2 dL_isFit_77
