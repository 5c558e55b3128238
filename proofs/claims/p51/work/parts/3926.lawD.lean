set_option maxHeartbeats 4000000 in
set_option maxRecDepth 100000 in
theorem c_L_act (l : Launch) (hl0 : l.stackTraces = false) (D : va_G) (Z : Nat → Nat → Nat) (k : Nat → ClassId) (sz : ft_SZ) (a : Nat) (σ : ft_Sg) (J : Nat → ft_Sg → Prop) (G : (Nat → Int32) → Prop) (T : Nat → Nat → ft_Sg → Prop) (hJ : ft_JJ J G T) (jc0 : Nat) (h0 : J jc0 σ) (hc : jc0 + 1 ≤ 1000) (r : Nat → Int32) (hq : σ.1 0 = r) (x2 : Int32) : Met l yL_act wsL_act ({ frames := 11, cells := 26, slots := 3756, locals := 307 }) (ft_PM D k Z sz a σ [.ref a, .int x2]) (ft_QR J D k Z sz a (jc0 + 1) (fun z u => z = -100000000 → u.1 0 = r)) 26 3756 (ft_AL sz) := by
  refine Met.ofW (cc := cL_act) (maxL := 5) (ret := (some .int)) (by decide) rfl ?_
  intro p e s m args below meth c s₁ B hml hv
  obtain ⟨hargs, hP, hEL, hz⟩ := hv
  have hE := hEL.1
  subst hargs
  have hx := B.exec
  have hb := B.bytes
  have hr := B.returns
  have hts := atoms_spec (ws := wsL_act) B.pre
  have hown : s.vm.findClass RL = some m.cls := findClass_of_methodNamed B.named
  have hlocks := B.notSynchronized
  have hS : va_S (ft_AL sz) s.heap s.heap [] := va_S.rf
  have hg : G r := hJ.gr h0 (by omega) hq
  have hl := lv_entry ([.ref a, .int x2]) (n := 5) (Nat.le_of_ble_eq_true rfl)
  rw [lg_entry_eq]
  generalize (lg_sl ([.ref a, .int x2]) ++ List.replicate (5 - (lg_sl ([.ref a, .int x2])).length) Slot.unset).toArray = ls at hl ⊢
  have hl : lv_has ls 5 [(0, .ref (a)), (1, .int (x2))] := hl
  refine lv_iload_n hx hb dL_act_0 rfl (lv_at hl 1 rfl) ?_
  refine lv_iconst (v := 4) hx hb dL_act_1 (by decide) ?_
  refine lv_ishr hx hb dL_act_2 ?_
  refine lv_ldc hx hb hown (hts (.constant RL 7 (65535)) (by decide +kernel)) dL_act_3 ?_
  refine lv_iand hx hb dL_act_5 ?_
  refine lv_istore_n (lv' := [(2, .int ((x2 >>> ((4 : Int32) &&& 31)) &&& 65535)), (0, .ref (a)), (1, .int (x2))]) hx hb dL_act_6 rfl hl (by decide) rfl (fun ls hl => ?_)
  refine lv_iload_n hx hb dL_act_7 rfl (lv_at hl 0 rfl) ?_
  refine lv_iconst (v := 4) hx hb dL_act_8 (by decide) ?_
  refine lv_irem hx hb dL_act_9 (by decide) ?_
  refine lv_istore_n (lv' := [(3, .int (((x2 >>> ((4 : Int32) &&& 31)) &&& 65535) - ((x2 >>> ((4 : Int32) &&& 31)) &&& 65535) / 4 * 4)), (2, .int ((x2 >>> ((4 : Int32) &&& 31)) &&& 65535)), (0, .ref (a)), (1, .int (x2))]) hx hb dL_act_10 rfl hl (by decide) rfl (fun ls hl => ?_)
  refine lv_iload_n hx hb dL_act_11 rfl (lv_at hl 1 rfl) ?_
  refine lv_sipush (v := 512) hx hb dL_act_12 (by decide) ?_
  refine lv_iand hx hb dL_act_15 ?_
  refine lv_if_ne (tgt := 29) hx hb dL_act_16 (by decide) (fun c_16 => ?_) (fun c_16 => ?_)
  · skip
    refine lv_iload_n hx hb dL_act_29 rfl (lv_at hl 1 rfl) ?_
    refine lv_iconst (v := 3) hx hb dL_act_30 (by decide) ?_
    refine lv_ishr hx hb dL_act_31 ?_
    refine lv_bipush (v := 8) hx hb dL_act_32 (by decide) ?_
    refine lv_irem hx hb dL_act_34 (by decide) ?_
    refine lv_istore (lv' := [(4, .int ((((x2 >>> ((4 : Int32) &&& 31)) &&& 65535) >>> ((3 : Int32) &&& 31)) - (((x2 >>> ((4 : Int32) &&& 31)) &&& 65535) >>> ((3 : Int32) &&& 31)) / 8 * 8)), (3, .int (((x2 >>> ((4 : Int32) &&& 31)) &&& 65535) - ((x2 >>> ((4 : Int32) &&& 31)) &&& 65535) / 4 * 4)), (2, .int ((x2 >>> ((4 : Int32) &&& 31)) &&& 65535)), (0, .ref (a)), (1, .int (x2))]) hx hb dL_act_35 hl (by decide) rfl (fun ls hl => ?_)
    refine lv_iload_n hx hb dL_act_37 rfl (lv_at hl 4 rfl) ?_
    refine lv_bipush (v := 15) hx hb dL_act_38 (by decide) ?_
    refine lv_iand hx hb dL_act_40 ?_
    by_cases k_41_0 : (x2 &&& 15) = 0
    · skip
      refine lv_tableIn (tgt := 116) (off := 75) hx hb dL_act_41 (by rw [k_41_0]; decide) (by rw [k_41_0]; decide) (by rw [k_41_0]; rfl) (by decide) ?_
      refine lv_iload_n hx hb dL_act_116 rfl (lv_at hl 2 rfl) ?_
      refine lv_bipush (v := 64) hx hb dL_act_117 (by decide) ?_
      refine lv_iand hx hb dL_act_119 ?_
      refine lv_if_ne (tgt := 130) hx hb dL_act_120 (by decide) (fun c_120 => ?_) (fun c_120 => ?_)
      · skip
        refine lv_aload_n hx hb dL_act_130 rfl (lv_at hl 3 rfl) ?_
        refine lv_iload_n hx hb dL_act_131 rfl (lv_at hl 2 rfl) ?_
        refine lv_iconst (v := 2) hx hb dL_act_132 (by decide) ?_
        refine lv_ishr hx hb dL_act_133 ?_
        refine lv_iconst (v := 5) hx hb dL_act_134 (by decide) ?_
        refine lv_irem hx hb dL_act_135 (by decide) ?_
        refine lv_iload_n hx hb dL_act_136 rfl (lv_at hl 2 rfl) ?_
        refine lv_iconst (v := 4) hx hb dL_act_137 (by decide) ?_
        refine lv_ishr hx hb dL_act_138 ?_
        refine lv_bipush (v := 22) hx hb dL_act_139 (by decide) ?_
        refine lv_irem hx hb dL_act_141 (by decide) ?_
        refine va_calli (vx_runSW (As := [.ref (a), .int ((((x2 >>> ((4 : Int32) &&& 31)) &&& 65535) >>> ((2 : Int32) &&& 31)) - (((x2 >>> ((4 : Int32) &&& 31)) &&& 65535) >>> ((2 : Int32) &&& 31)) / 5 * 5), .int ((((x2 >>> ((4 : Int32) &&& 31)) &&& 65535) >>> ((4 : Int32) &&& 31)) - (((x2 >>> ((4 : Int32) &&& 31)) &&& 65535) >>> ((4 : Int32) &&& 31)) / 22 * 22)]) (rest := []) ⟨hx, hb, hml, hown, hts⟩ (d_L_setPrice l hl0 D Z k sz a σ ((((x2 >>> ((4 : Int32) &&& 31)) &&& 65535) >>> ((2 : Int32) &&& 31)) - (((x2 >>> ((4 : Int32) &&& 31)) &&& 65535) >>> ((2 : Int32) &&& 31)) / 5 * 5) ((((x2 >>> ((4 : Int32) &&& 31)) &&& 65535) >>> ((4 : Int32) &&& 31)) - (((x2 >>> ((4 : Int32) &&& 31)) &&& 65535) >>> ((4 : Int32) &&& 31)) / 22 * 22) (hJ.pm h0) (hJ.ex_setPrice _ _ h0 (by omega))) (vx_cwSW 3 hts gL_act_L_setPrice rfl rfl rfl (by decide +kernel) ⟨Nat.le_of_ble_eq_true rfl, Nat.le_of_ble_eq_true rfl⟩) (ft_preM hEL hz hS hP) rfl rfl hl.1 rfl (lv_room (Nat.le_of_ble_eq_true rfl)) dL_act_142 ⟨Nat.le_of_ble_eq_true rfl, Nat.le_of_ble_eq_true rfl⟩) hS (fun _ _ h => h) (fun _ h => h) (fun z u t H1 locs1 ht hvm hw hB hz1 hk1 hS1 => ?_)
        obtain ⟨rfl, rfl⟩ : z = (w_setPrice σ ((((x2 >>> ((4 : Int32) &&& 31)) &&& 65535) >>> ((2 : Int32) &&& 31)) - (((x2 >>> ((4 : Int32) &&& 31)) &&& 65535) >>> ((2 : Int32) &&& 31)) / 5 * 5) ((((x2 >>> ((4 : Int32) &&& 31)) &&& 65535) >>> ((4 : Int32) &&& 31)) - (((x2 >>> ((4 : Int32) &&& 31)) &&& 65535) >>> ((4 : Int32) &&& 31)) / 22 * 22)).1 ∧ u = (w_setPrice σ ((((x2 >>> ((4 : Int32) &&& 31)) &&& 65535) >>> ((2 : Int32) &&& 31)) - (((x2 >>> ((4 : Int32) &&& 31)) &&& 65535) >>> ((2 : Int32) &&& 31)) / 5 * 5) ((((x2 >>> ((4 : Int32) &&& 31)) &&& 65535) >>> ((4 : Int32) &&& 31)) - (((x2 >>> ((4 : Int32) &&& 31)) &&& 65535) >>> ((4 : Int32) &&& 31)) / 22 * 22)).2 := ⟨congrArg Prod.fst hw, congrArg Prod.snd hw⟩
        rw [ht] at hB
        have hP := hB
        have hS := hS1
        clear hS1
        generalize H1 = H at hP hS ⊢
        refine W.widen (k := 1) (n := 6) (by omega) (by omega) ?_
        have hJ_142_0 : J (jc0 + 0) (w_setPrice σ ((((x2 >>> ((4 : Int32) &&& 31)) &&& 65535) >>> ((2 : Int32) &&& 31)) - (((x2 >>> ((4 : Int32) &&& 31)) &&& 65535) >>> ((2 : Int32) &&& 31)) / 5 * 5) ((((x2 >>> ((4 : Int32) &&& 31)) &&& 65535) >>> ((4 : Int32) &&& 31)) - (((x2 >>> ((4 : Int32) &&& 31)) &&& 65535) >>> ((4 : Int32) &&& 31)) / 22 * 22)).2 := hJ.mono (hJ.k_setPrice _ _ h0 (by omega)) (by omega)
        have hq_142_1 : (w_setPrice σ ((((x2 >>> ((4 : Int32) &&& 31)) &&& 65535) >>> ((2 : Int32) &&& 31)) - (((x2 >>> ((4 : Int32) &&& 31)) &&& 65535) >>> ((2 : Int32) &&& 31)) / 5 * 5) ((((x2 >>> ((4 : Int32) &&& 31)) &&& 65535) >>> ((4 : Int32) &&& 31)) - (((x2 >>> ((4 : Int32) &&& 31)) &&& 65535) >>> ((4 : Int32) &&& 31)) / 22 * 22)).2.1 0 = ((w_setPrice σ ((((x2 >>> ((4 : Int32) &&& 31)) &&& 65535) >>> ((2 : Int32) &&& 31)) - (((x2 >>> ((4 : Int32) &&& 31)) &&& 65535) >>> ((2 : Int32) &&& 31)) / 5 * 5) ((((x2 >>> ((4 : Int32) &&& 31)) &&& 65535) >>> ((4 : Int32) &&& 31)) - (((x2 >>> ((4 : Int32) &&& 31)) &&& 65535) >>> ((4 : Int32) &&& 31)) / 22 * 22)).2.1 0) := rfl
        have hg_142_1 : G ((w_setPrice σ ((((x2 >>> ((4 : Int32) &&& 31)) &&& 65535) >>> ((2 : Int32) &&& 31)) - (((x2 >>> ((4 : Int32) &&& 31)) &&& 65535) >>> ((2 : Int32) &&& 31)) / 5 * 5) ((((x2 >>> ((4 : Int32) &&& 31)) &&& 65535) >>> ((4 : Int32) &&& 31)) - (((x2 >>> ((4 : Int32) &&& 31)) &&& 65535) >>> ((4 : Int32) &&& 31)) / 22 * 22)).2.1 0) := hJ.gr hJ_142_0 (by omega) hq_142_1
        refine W.widen (k := 26) (n := 3756) (by omega) (by omega) ?_
        exact W.iret (v := ((w_setPrice σ ((((x2 >>> ((4 : Int32) &&& 31)) &&& 65535) >>> ((2 : Int32) &&& 31)) - (((x2 >>> ((4 : Int32) &&& 31)) &&& 65535) >>> ((2 : Int32) &&& 31)) / 5 * 5) ((((x2 >>> ((4 : Int32) &&& 31)) &&& 65535) >>> ((4 : Int32) &&& 31)) - (((x2 >>> ((4 : Int32) &&& 31)) &&& 65535) >>> ((4 : Int32) &&& 31)) / 22 * 22)).1)) hx hb hr (fun t ht hW => ⟨⟨((w_setPrice σ ((((x2 >>> ((4 : Int32) &&& 31)) &&& 65535) >>> ((2 : Int32) &&& 31)) - (((x2 >>> ((4 : Int32) &&& 31)) &&& 65535) >>> ((2 : Int32) &&& 31)) / 5 * 5) ((((x2 >>> ((4 : Int32) &&& 31)) &&& 65535) >>> ((4 : Int32) &&& 31)) - (((x2 >>> ((4 : Int32) &&& 31)) &&& 65535) >>> ((4 : Int32) &&& 31)) / 22 * 22)).1), (w_setPrice σ ((((x2 >>> ((4 : Int32) &&& 31)) &&& 65535) >>> ((2 : Int32) &&& 31)) - (((x2 >>> ((4 : Int32) &&& 31)) &&& 65535) >>> ((2 : Int32) &&& 31)) / 5 * 5) ((((x2 >>> ((4 : Int32) &&& 31)) &&& 65535) >>> ((4 : Int32) &&& 31)) - (((x2 >>> ((4 : Int32) &&& 31)) &&& 65535) >>> ((4 : Int32) &&& 31)) / 22 * 22)).2, rfl, ⟨fun h9 => (hJ.f_setPrice _ _ h0 (by omega) h9).trans hq, hJ.mono hJ_142_0 (by omega)⟩, by show ft_LW D k Z sz a _ t.heap; rw [ht]; exact hP⟩, hS.F ht⟩) hS.2.2 dL_act_145
      · skip
        refine lv_aload_n hx hb dL_act_123 rfl (lv_at hl 3 rfl) ?_
        refine va_calli (vx_runSW (As := [.ref (a)]) (rest := []) ⟨hx, hb, hml, hown, hts⟩ (d_L_addTruck l hl0 D Z k sz a σ (hJ.pm h0) (hJ.ex_addTruck h0 (by omega))) (vx_cwSW 1 hts gL_act_L_addTruck rfl rfl rfl (by decide +kernel) ⟨Nat.le_of_ble_eq_true rfl, Nat.le_of_ble_eq_true rfl⟩) (ft_preM hEL hz hS hP) rfl rfl hl.1 rfl (lv_room (Nat.le_of_ble_eq_true rfl)) dL_act_124 ⟨Nat.le_of_ble_eq_true rfl, Nat.le_of_ble_eq_true rfl⟩) hS (fun _ _ h => h) (fun _ h => h) (fun z u t H1 locs1 ht hvm hw hB hz1 hk1 hS1 => ?_)
        obtain ⟨rfl, rfl⟩ : z = (w_addTruck σ).1 ∧ u = (w_addTruck σ).2 := ⟨congrArg Prod.fst hw, congrArg Prod.snd hw⟩
        rw [ht] at hB
        have hP := hB
        have hS := hS1
        clear hS1
        generalize H1 = H at hP hS ⊢
        refine W.widen (k := 1) (n := 6) (by omega) (by omega) ?_
        have hJ_124_1 : J (jc0 + 0) (w_addTruck σ).2 := hJ.mono (hJ.k_addTruck h0 (by omega)) (by omega)
        have hq_124_2 : (w_addTruck σ).2.1 0 = ((w_addTruck σ).2.1 0) := rfl
        have hg_124_2 : G ((w_addTruck σ).2.1 0) := hJ.gr hJ_124_1 (by omega) hq_124_2
        refine lv_goto (tgt := 145) hx hb dL_act_127 (by decide) ?_
        refine W.widen (k := 26) (n := 3756) (by omega) (by omega) ?_
        exact W.iret (v := ((w_addTruck σ).1)) hx hb hr (fun t ht hW => ⟨⟨((w_addTruck σ).1), (w_addTruck σ).2, rfl, ⟨fun h9 => (hJ.f_addTruck h0 (by omega) h9).trans hq, hJ.mono hJ_124_1 (by omega)⟩, by show ft_LW D k Z sz a _ t.heap; rw [ht]; exact hP⟩, hS.F ht⟩) hS.2.2 dL_act_145
    by_cases k_41_1 : (x2 &&& 15) = 1
    · skip
      refine lv_tableIn (tgt := 146) (off := 105) hx hb dL_act_41 (by rw [k_41_1]; decide) (by rw [k_41_1]; decide) (by rw [k_41_1]; rfl) (by decide) ?_
      refine lv_aload_n hx hb dL_act_146 rfl (lv_at hl 3 rfl) ?_
      refine lv_iload_n hx hb dL_act_147 rfl (lv_at hl 1 rfl) ?_
      refine lv_iload_n hx hb dL_act_148 rfl (lv_at hl 2 rfl) ?_
      refine lv_iconst (v := 2) hx hb dL_act_149 (by decide) ?_
      refine lv_ishr hx hb dL_act_150 ?_
      refine lv_iconst (v := 4) hx hb dL_act_151 (by decide) ?_
      refine lv_irem hx hb dL_act_152 (by decide) ?_
      refine lv_iload_n hx hb dL_act_153 rfl (lv_at hl 2 rfl) ?_
      refine lv_iconst (v := 4) hx hb dL_act_154 (by decide) ?_
      refine lv_ishr hx hb dL_act_155 ?_
      refine lv_bipush (v := 30) hx hb dL_act_156 (by decide) ?_
      refine lv_irem hx hb dL_act_158 (by decide) ?_
      refine va_calli (vx_runSW (As := [.ref (a), .int (((x2 >>> ((4 : Int32) &&& 31)) &&& 65535) - ((x2 >>> ((4 : Int32) &&& 31)) &&& 65535) / 4 * 4), .int ((((x2 >>> ((4 : Int32) &&& 31)) &&& 65535) >>> ((2 : Int32) &&& 31)) - (((x2 >>> ((4 : Int32) &&& 31)) &&& 65535) >>> ((2 : Int32) &&& 31)) / 4 * 4), .int ((((x2 >>> ((4 : Int32) &&& 31)) &&& 65535) >>> ((4 : Int32) &&& 31)) - (((x2 >>> ((4 : Int32) &&& 31)) &&& 65535) >>> ((4 : Int32) &&& 31)) / 30 * 30)]) (rest := []) ⟨hx, hb, hml, hown, hts⟩ (d_L_addStock l hl0 D Z k sz a σ (((x2 >>> ((4 : Int32) &&& 31)) &&& 65535) - ((x2 >>> ((4 : Int32) &&& 31)) &&& 65535) / 4 * 4) ((((x2 >>> ((4 : Int32) &&& 31)) &&& 65535) >>> ((2 : Int32) &&& 31)) - (((x2 >>> ((4 : Int32) &&& 31)) &&& 65535) >>> ((2 : Int32) &&& 31)) / 4 * 4) ((((x2 >>> ((4 : Int32) &&& 31)) &&& 65535) >>> ((4 : Int32) &&& 31)) - (((x2 >>> ((4 : Int32) &&& 31)) &&& 65535) >>> ((4 : Int32) &&& 31)) / 30 * 30) (hJ.pm h0) (hJ.ex_addStock _ _ _ h0 (by omega))) (vx_cwSW 4 hts gL_act_L_addStock rfl rfl rfl (by decide +kernel) ⟨Nat.le_of_ble_eq_true rfl, Nat.le_of_ble_eq_true rfl⟩) (ft_preM hEL hz hS hP) rfl rfl hl.1 rfl (lv_room (Nat.le_of_ble_eq_true rfl)) dL_act_159 ⟨Nat.le_of_ble_eq_true rfl, Nat.le_of_ble_eq_true rfl⟩) hS (fun _ _ h => h) (fun _ h => h) (fun z u t H1 locs1 ht hvm hw hB hz1 hk1 hS1 => ?_)
      obtain ⟨rfl, rfl⟩ : z = (w_addStock σ (((x2 >>> ((4 : Int32) &&& 31)) &&& 65535) - ((x2 >>> ((4 : Int32) &&& 31)) &&& 65535) / 4 * 4) ((((x2 >>> ((4 : Int32) &&& 31)) &&& 65535) >>> ((2 : Int32) &&& 31)) - (((x2 >>> ((4 : Int32) &&& 31)) &&& 65535) >>> ((2 : Int32) &&& 31)) / 4 * 4) ((((x2 >>> ((4 : Int32) &&& 31)) &&& 65535) >>> ((4 : Int32) &&& 31)) - (((x2 >>> ((4 : Int32) &&& 31)) &&& 65535) >>> ((4 : Int32) &&& 31)) / 30 * 30)).1 ∧ u = (w_addStock σ (((x2 >>> ((4 : Int32) &&& 31)) &&& 65535) - ((x2 >>> ((4 : Int32) &&& 31)) &&& 65535) / 4 * 4) ((((x2 >>> ((4 : Int32) &&& 31)) &&& 65535) >>> ((2 : Int32) &&& 31)) - (((x2 >>> ((4 : Int32) &&& 31)) &&& 65535) >>> ((2 : Int32) &&& 31)) / 4 * 4) ((((x2 >>> ((4 : Int32) &&& 31)) &&& 65535) >>> ((4 : Int32) &&& 31)) - (((x2 >>> ((4 : Int32) &&& 31)) &&& 65535) >>> ((4 : Int32) &&& 31)) / 30 * 30)).2 := ⟨congrArg Prod.fst hw, congrArg Prod.snd hw⟩
      rw [ht] at hB
      have hP := hB
      have hS := hS1
      clear hS1
      generalize H1 = H at hP hS ⊢
      refine W.widen (k := 1) (n := 6) (by omega) (by omega) ?_
      have hJ_159_2 : J (jc0 + 0) (w_addStock σ (((x2 >>> ((4 : Int32) &&& 31)) &&& 65535) - ((x2 >>> ((4 : Int32) &&& 31)) &&& 65535) / 4 * 4) ((((x2 >>> ((4 : Int32) &&& 31)) &&& 65535) >>> ((2 : Int32) &&& 31)) - (((x2 >>> ((4 : Int32) &&& 31)) &&& 65535) >>> ((2 : Int32) &&& 31)) / 4 * 4) ((((x2 >>> ((4 : Int32) &&& 31)) &&& 65535) >>> ((4 : Int32) &&& 31)) - (((x2 >>> ((4 : Int32) &&& 31)) &&& 65535) >>> ((4 : Int32) &&& 31)) / 30 * 30)).2 := hJ.mono (hJ.k_addStock _ _ _ h0 (by omega)) (by omega)
      have hq_159_3 : (w_addStock σ (((x2 >>> ((4 : Int32) &&& 31)) &&& 65535) - ((x2 >>> ((4 : Int32) &&& 31)) &&& 65535) / 4 * 4) ((((x2 >>> ((4 : Int32) &&& 31)) &&& 65535) >>> ((2 : Int32) &&& 31)) - (((x2 >>> ((4 : Int32) &&& 31)) &&& 65535) >>> ((2 : Int32) &&& 31)) / 4 * 4) ((((x2 >>> ((4 : Int32) &&& 31)) &&& 65535) >>> ((4 : Int32) &&& 31)) - (((x2 >>> ((4 : Int32) &&& 31)) &&& 65535) >>> ((4 : Int32) &&& 31)) / 30 * 30)).2.1 0 = ((w_addStock σ (((x2 >>> ((4 : Int32) &&& 31)) &&& 65535) - ((x2 >>> ((4 : Int32) &&& 31)) &&& 65535) / 4 * 4) ((((x2 >>> ((4 : Int32) &&& 31)) &&& 65535) >>> ((2 : Int32) &&& 31)) - (((x2 >>> ((4 : Int32) &&& 31)) &&& 65535) >>> ((2 : Int32) &&& 31)) / 4 * 4) ((((x2 >>> ((4 : Int32) &&& 31)) &&& 65535) >>> ((4 : Int32) &&& 31)) - (((x2 >>> ((4 : Int32) &&& 31)) &&& 65535) >>> ((4 : Int32) &&& 31)) / 30 * 30)).2.1 0) := rfl
      have hg_159_3 : G ((w_addStock σ (((x2 >>> ((4 : Int32) &&& 31)) &&& 65535) - ((x2 >>> ((4 : Int32) &&& 31)) &&& 65535) / 4 * 4) ((((x2 >>> ((4 : Int32) &&& 31)) &&& 65535) >>> ((2 : Int32) &&& 31)) - (((x2 >>> ((4 : Int32) &&& 31)) &&& 65535) >>> ((2 : Int32) &&& 31)) / 4 * 4) ((((x2 >>> ((4 : Int32) &&& 31)) &&& 65535) >>> ((4 : Int32) &&& 31)) - (((x2 >>> ((4 : Int32) &&& 31)) &&& 65535) >>> ((4 : Int32) &&& 31)) / 30 * 30)).2.1 0) := hJ.gr hJ_159_2 (by omega) hq_159_3
      refine W.widen (k := 26) (n := 3756) (by omega) (by omega) ?_
      exact W.iret (v := ((w_addStock σ (((x2 >>> ((4 : Int32) &&& 31)) &&& 65535) - ((x2 >>> ((4 : Int32) &&& 31)) &&& 65535) / 4 * 4) ((((x2 >>> ((4 : Int32) &&& 31)) &&& 65535) >>> ((2 : Int32) &&& 31)) - (((x2 >>> ((4 : Int32) &&& 31)) &&& 65535) >>> ((2 : Int32) &&& 31)) / 4 * 4) ((((x2 >>> ((4 : Int32) &&& 31)) &&& 65535) >>> ((4 : Int32) &&& 31)) - (((x2 >>> ((4 : Int32) &&& 31)) &&& 65535) >>> ((4 : Int32) &&& 31)) / 30 * 30)).1)) hx hb hr (fun t ht hW => ⟨⟨((w_addStock σ (((x2 >>> ((4 : Int32) &&& 31)) &&& 65535) - ((x2 >>> ((4 : Int32) &&& 31)) &&& 65535) / 4 * 4) ((((x2 >>> ((4 : Int32) &&& 31)) &&& 65535) >>> ((2 : Int32) &&& 31)) - (((x2 >>> ((4 : Int32) &&& 31)) &&& 65535) >>> ((2 : Int32) &&& 31)) / 4 * 4) ((((x2 >>> ((4 : Int32) &&& 31)) &&& 65535) >>> ((4 : Int32) &&& 31)) - (((x2 >>> ((4 : Int32) &&& 31)) &&& 65535) >>> ((4 : Int32) &&& 31)) / 30 * 30)).1), (w_addStock σ (((x2 >>> ((4 : Int32) &&& 31)) &&& 65535) - ((x2 >>> ((4 : Int32) &&& 31)) &&& 65535) / 4 * 4) ((((x2 >>> ((4 : Int32) &&& 31)) &&& 65535) >>> ((2 : Int32) &&& 31)) - (((x2 >>> ((4 : Int32) &&& 31)) &&& 65535) >>> ((2 : Int32) &&& 31)) / 4 * 4) ((((x2 >>> ((4 : Int32) &&& 31)) &&& 65535) >>> ((4 : Int32) &&& 31)) - (((x2 >>> ((4 : Int32) &&& 31)) &&& 65535) >>> ((4 : Int32) &&& 31)) / 30 * 30)).2, rfl, ⟨fun h9 => (hJ.f_addStock _ _ _ h0 (by omega) h9).trans hq, hJ.mono hJ_159_2 (by omega)⟩, by show ft_LW D k Z sz a _ t.heap; rw [ht]; exact hP⟩, hS.F ht⟩) hS.2.2 dL_act_162
    by_cases k_41_2 : (x2 &&& 15) = 2
    · skip
      refine lv_tableIn (tgt := 146) (off := 105) hx hb dL_act_41 (by rw [k_41_2]; decide) (by rw [k_41_2]; decide) (by rw [k_41_2]; rfl) (by decide) ?_
      refine lv_aload_n hx hb dL_act_146 rfl (lv_at hl 3 rfl) ?_
      refine lv_iload_n hx hb dL_act_147 rfl (lv_at hl 1 rfl) ?_
      refine lv_iload_n hx hb dL_act_148 rfl (lv_at hl 2 rfl) ?_
      refine lv_iconst (v := 2) hx hb dL_act_149 (by decide) ?_
      refine lv_ishr hx hb dL_act_150 ?_
      refine lv_iconst (v := 4) hx hb dL_act_151 (by decide) ?_
      refine lv_irem hx hb dL_act_152 (by decide) ?_
      refine lv_iload_n hx hb dL_act_153 rfl (lv_at hl 2 rfl) ?_
      refine lv_iconst (v := 4) hx hb dL_act_154 (by decide) ?_
      refine lv_ishr hx hb dL_act_155 ?_
      refine lv_bipush (v := 30) hx hb dL_act_156 (by decide) ?_
      refine lv_irem hx hb dL_act_158 (by decide) ?_
      refine va_calli (vx_runSW (As := [.ref (a), .int (((x2 >>> ((4 : Int32) &&& 31)) &&& 65535) - ((x2 >>> ((4 : Int32) &&& 31)) &&& 65535) / 4 * 4), .int ((((x2 >>> ((4 : Int32) &&& 31)) &&& 65535) >>> ((2 : Int32) &&& 31)) - (((x2 >>> ((4 : Int32) &&& 31)) &&& 65535) >>> ((2 : Int32) &&& 31)) / 4 * 4), .int ((((x2 >>> ((4 : Int32) &&& 31)) &&& 65535) >>> ((4 : Int32) &&& 31)) - (((x2 >>> ((4 : Int32) &&& 31)) &&& 65535) >>> ((4 : Int32) &&& 31)) / 30 * 30)]) (rest := []) ⟨hx, hb, hml, hown, hts⟩ (d_L_addStock l hl0 D Z k sz a σ (((x2 >>> ((4 : Int32) &&& 31)) &&& 65535) - ((x2 >>> ((4 : Int32) &&& 31)) &&& 65535) / 4 * 4) ((((x2 >>> ((4 : Int32) &&& 31)) &&& 65535) >>> ((2 : Int32) &&& 31)) - (((x2 >>> ((4 : Int32) &&& 31)) &&& 65535) >>> ((2 : Int32) &&& 31)) / 4 * 4) ((((x2 >>> ((4 : Int32) &&& 31)) &&& 65535) >>> ((4 : Int32) &&& 31)) - (((x2 >>> ((4 : Int32) &&& 31)) &&& 65535) >>> ((4 : Int32) &&& 31)) / 30 * 30) (hJ.pm h0) (hJ.ex_addStock _ _ _ h0 (by omega))) (vx_cwSW 4 hts gL_act_L_addStock rfl rfl rfl (by decide +kernel) ⟨Nat.le_of_ble_eq_true rfl, Nat.le_of_ble_eq_true rfl⟩) (ft_preM hEL hz hS hP) rfl rfl hl.1 rfl (lv_room (Nat.le_of_ble_eq_true rfl)) dL_act_159 ⟨Nat.le_of_ble_eq_true rfl, Nat.le_of_ble_eq_true rfl⟩) hS (fun _ _ h => h) (fun _ h => h) (fun z u t H1 locs1 ht hvm hw hB hz1 hk1 hS1 => ?_)
      obtain ⟨rfl, rfl⟩ : z = (w_addStock σ (((x2 >>> ((4 : Int32) &&& 31)) &&& 65535) - ((x2 >>> ((4 : Int32) &&& 31)) &&& 65535) / 4 * 4) ((((x2 >>> ((4 : Int32) &&& 31)) &&& 65535) >>> ((2 : Int32) &&& 31)) - (((x2 >>> ((4 : Int32) &&& 31)) &&& 65535) >>> ((2 : Int32) &&& 31)) / 4 * 4) ((((x2 >>> ((4 : Int32) &&& 31)) &&& 65535) >>> ((4 : Int32) &&& 31)) - (((x2 >>> ((4 : Int32) &&& 31)) &&& 65535) >>> ((4 : Int32) &&& 31)) / 30 * 30)).1 ∧ u = (w_addStock σ (((x2 >>> ((4 : Int32) &&& 31)) &&& 65535) - ((x2 >>> ((4 : Int32) &&& 31)) &&& 65535) / 4 * 4) ((((x2 >>> ((4 : Int32) &&& 31)) &&& 65535) >>> ((2 : Int32) &&& 31)) - (((x2 >>> ((4 : Int32) &&& 31)) &&& 65535) >>> ((2 : Int32) &&& 31)) / 4 * 4) ((((x2 >>> ((4 : Int32) &&& 31)) &&& 65535) >>> ((4 : Int32) &&& 31)) - (((x2 >>> ((4 : Int32) &&& 31)) &&& 65535) >>> ((4 : Int32) &&& 31)) / 30 * 30)).2 := ⟨congrArg Prod.fst hw, congrArg Prod.snd hw⟩
      rw [ht] at hB
      have hP := hB
      have hS := hS1
      clear hS1
      generalize H1 = H at hP hS ⊢
      refine W.widen (k := 1) (n := 6) (by omega) (by omega) ?_
      have hJ_159_3 : J (jc0 + 0) (w_addStock σ (((x2 >>> ((4 : Int32) &&& 31)) &&& 65535) - ((x2 >>> ((4 : Int32) &&& 31)) &&& 65535) / 4 * 4) ((((x2 >>> ((4 : Int32) &&& 31)) &&& 65535) >>> ((2 : Int32) &&& 31)) - (((x2 >>> ((4 : Int32) &&& 31)) &&& 65535) >>> ((2 : Int32) &&& 31)) / 4 * 4) ((((x2 >>> ((4 : Int32) &&& 31)) &&& 65535) >>> ((4 : Int32) &&& 31)) - (((x2 >>> ((4 : Int32) &&& 31)) &&& 65535) >>> ((4 : Int32) &&& 31)) / 30 * 30)).2 := hJ.mono (hJ.k_addStock _ _ _ h0 (by omega)) (by omega)
      have hq_159_4 : (w_addStock σ (((x2 >>> ((4 : Int32) &&& 31)) &&& 65535) - ((x2 >>> ((4 : Int32) &&& 31)) &&& 65535) / 4 * 4) ((((x2 >>> ((4 : Int32) &&& 31)) &&& 65535) >>> ((2 : Int32) &&& 31)) - (((x2 >>> ((4 : Int32) &&& 31)) &&& 65535) >>> ((2 : Int32) &&& 31)) / 4 * 4) ((((x2 >>> ((4 : Int32) &&& 31)) &&& 65535) >>> ((4 : Int32) &&& 31)) - (((x2 >>> ((4 : Int32) &&& 31)) &&& 65535) >>> ((4 : Int32) &&& 31)) / 30 * 30)).2.1 0 = ((w_addStock σ (((x2 >>> ((4 : Int32) &&& 31)) &&& 65535) - ((x2 >>> ((4 : Int32) &&& 31)) &&& 65535) / 4 * 4) ((((x2 >>> ((4 : Int32) &&& 31)) &&& 65535) >>> ((2 : Int32) &&& 31)) - (((x2 >>> ((4 : Int32) &&& 31)) &&& 65535) >>> ((2 : Int32) &&& 31)) / 4 * 4) ((((x2 >>> ((4 : Int32) &&& 31)) &&& 65535) >>> ((4 : Int32) &&& 31)) - (((x2 >>> ((4 : Int32) &&& 31)) &&& 65535) >>> ((4 : Int32) &&& 31)) / 30 * 30)).2.1 0) := rfl
      have hg_159_4 : G ((w_addStock σ (((x2 >>> ((4 : Int32) &&& 31)) &&& 65535) - ((x2 >>> ((4 : Int32) &&& 31)) &&& 65535) / 4 * 4) ((((x2 >>> ((4 : Int32) &&& 31)) &&& 65535) >>> ((2 : Int32) &&& 31)) - (((x2 >>> ((4 : Int32) &&& 31)) &&& 65535) >>> ((2 : Int32) &&& 31)) / 4 * 4) ((((x2 >>> ((4 : Int32) &&& 31)) &&& 65535) >>> ((4 : Int32) &&& 31)) - (((x2 >>> ((4 : Int32) &&& 31)) &&& 65535) >>> ((4 : Int32) &&& 31)) / 30 * 30)).2.1 0) := hJ.gr hJ_159_3 (by omega) hq_159_4
      refine W.widen (k := 26) (n := 3756) (by omega) (by omega) ?_
      exact W.iret (v := ((w_addStock σ (((x2 >>> ((4 : Int32) &&& 31)) &&& 65535) - ((x2 >>> ((4 : Int32) &&& 31)) &&& 65535) / 4 * 4) ((((x2 >>> ((4 : Int32) &&& 31)) &&& 65535) >>> ((2 : Int32) &&& 31)) - (((x2 >>> ((4 : Int32) &&& 31)) &&& 65535) >>> ((2 : Int32) &&& 31)) / 4 * 4) ((((x2 >>> ((4 : Int32) &&& 31)) &&& 65535) >>> ((4 : Int32) &&& 31)) - (((x2 >>> ((4 : Int32) &&& 31)) &&& 65535) >>> ((4 : Int32) &&& 31)) / 30 * 30)).1)) hx hb hr (fun t ht hW => ⟨⟨((w_addStock σ (((x2 >>> ((4 : Int32) &&& 31)) &&& 65535) - ((x2 >>> ((4 : Int32) &&& 31)) &&& 65535) / 4 * 4) ((((x2 >>> ((4 : Int32) &&& 31)) &&& 65535) >>> ((2 : Int32) &&& 31)) - (((x2 >>> ((4 : Int32) &&& 31)) &&& 65535) >>> ((2 : Int32) &&& 31)) / 4 * 4) ((((x2 >>> ((4 : Int32) &&& 31)) &&& 65535) >>> ((4 : Int32) &&& 31)) - (((x2 >>> ((4 : Int32) &&& 31)) &&& 65535) >>> ((4 : Int32) &&& 31)) / 30 * 30)).1), (w_addStock σ (((x2 >>> ((4 : Int32) &&& 31)) &&& 65535) - ((x2 >>> ((4 : Int32) &&& 31)) &&& 65535) / 4 * 4) ((((x2 >>> ((4 : Int32) &&& 31)) &&& 65535) >>> ((2 : Int32) &&& 31)) - (((x2 >>> ((4 : Int32) &&& 31)) &&& 65535) >>> ((2 : Int32) &&& 31)) / 4 * 4) ((((x2 >>> ((4 : Int32) &&& 31)) &&& 65535) >>> ((4 : Int32) &&& 31)) - (((x2 >>> ((4 : Int32) &&& 31)) &&& 65535) >>> ((4 : Int32) &&& 31)) / 30 * 30)).2, rfl, ⟨fun h9 => (hJ.f_addStock _ _ _ h0 (by omega) h9).trans hq, hJ.mono hJ_159_3 (by omega)⟩, by show ft_LW D k Z sz a _ t.heap; rw [ht]; exact hP⟩, hS.F ht⟩) hS.2.2 dL_act_162
    by_cases k_41_3 : (x2 &&& 15) = 3
    · skip
      refine lv_tableIn (tgt := 146) (off := 105) hx hb dL_act_41 (by rw [k_41_3]; decide) (by rw [k_41_3]; decide) (by rw [k_41_3]; rfl) (by decide) ?_
      refine lv_aload_n hx hb dL_act_146 rfl (lv_at hl 3 rfl) ?_
      refine lv_iload_n hx hb dL_act_147 rfl (lv_at hl 1 rfl) ?_
      refine lv_iload_n hx hb dL_act_148 rfl (lv_at hl 2 rfl) ?_
      refine lv_iconst (v := 2) hx hb dL_act_149 (by decide) ?_
      refine lv_ishr hx hb dL_act_150 ?_
      refine lv_iconst (v := 4) hx hb dL_act_151 (by decide) ?_
      refine lv_irem hx hb dL_act_152 (by decide) ?_
      refine lv_iload_n hx hb dL_act_153 rfl (lv_at hl 2 rfl) ?_
      refine lv_iconst (v := 4) hx hb dL_act_154 (by decide) ?_
      refine lv_ishr hx hb dL_act_155 ?_
      refine lv_bipush (v := 30) hx hb dL_act_156 (by decide) ?_
      refine lv_irem hx hb dL_act_158 (by decide) ?_
      refine va_calli (vx_runSW (As := [.ref (a), .int (((x2 >>> ((4 : Int32) &&& 31)) &&& 65535) - ((x2 >>> ((4 : Int32) &&& 31)) &&& 65535) / 4 * 4), .int ((((x2 >>> ((4 : Int32) &&& 31)) &&& 65535) >>> ((2 : Int32) &&& 31)) - (((x2 >>> ((4 : Int32) &&& 31)) &&& 65535) >>> ((2 : Int32) &&& 31)) / 4 * 4), .int ((((x2 >>> ((4 : Int32) &&& 31)) &&& 65535) >>> ((4 : Int32) &&& 31)) - (((x2 >>> ((4 : Int32) &&& 31)) &&& 65535) >>> ((4 : Int32) &&& 31)) / 30 * 30)]) (rest := []) ⟨hx, hb, hml, hown, hts⟩ (d_L_addStock l hl0 D Z k sz a σ (((x2 >>> ((4 : Int32) &&& 31)) &&& 65535) - ((x2 >>> ((4 : Int32) &&& 31)) &&& 65535) / 4 * 4) ((((x2 >>> ((4 : Int32) &&& 31)) &&& 65535) >>> ((2 : Int32) &&& 31)) - (((x2 >>> ((4 : Int32) &&& 31)) &&& 65535) >>> ((2 : Int32) &&& 31)) / 4 * 4) ((((x2 >>> ((4 : Int32) &&& 31)) &&& 65535) >>> ((4 : Int32) &&& 31)) - (((x2 >>> ((4 : Int32) &&& 31)) &&& 65535) >>> ((4 : Int32) &&& 31)) / 30 * 30) (hJ.pm h0) (hJ.ex_addStock _ _ _ h0 (by omega))) (vx_cwSW 4 hts gL_act_L_addStock rfl rfl rfl (by decide +kernel) ⟨Nat.le_of_ble_eq_true rfl, Nat.le_of_ble_eq_true rfl⟩) (ft_preM hEL hz hS hP) rfl rfl hl.1 rfl (lv_room (Nat.le_of_ble_eq_true rfl)) dL_act_159 ⟨Nat.le_of_ble_eq_true rfl, Nat.le_of_ble_eq_true rfl⟩) hS (fun _ _ h => h) (fun _ h => h) (fun z u t H1 locs1 ht hvm hw hB hz1 hk1 hS1 => ?_)
      obtain ⟨rfl, rfl⟩ : z = (w_addStock σ (((x2 >>> ((4 : Int32) &&& 31)) &&& 65535) - ((x2 >>> ((4 : Int32) &&& 31)) &&& 65535) / 4 * 4) ((((x2 >>> ((4 : Int32) &&& 31)) &&& 65535) >>> ((2 : Int32) &&& 31)) - (((x2 >>> ((4 : Int32) &&& 31)) &&& 65535) >>> ((2 : Int32) &&& 31)) / 4 * 4) ((((x2 >>> ((4 : Int32) &&& 31)) &&& 65535) >>> ((4 : Int32) &&& 31)) - (((x2 >>> ((4 : Int32) &&& 31)) &&& 65535) >>> ((4 : Int32) &&& 31)) / 30 * 30)).1 ∧ u = (w_addStock σ (((x2 >>> ((4 : Int32) &&& 31)) &&& 65535) - ((x2 >>> ((4 : Int32) &&& 31)) &&& 65535) / 4 * 4) ((((x2 >>> ((4 : Int32) &&& 31)) &&& 65535) >>> ((2 : Int32) &&& 31)) - (((x2 >>> ((4 : Int32) &&& 31)) &&& 65535) >>> ((2 : Int32) &&& 31)) / 4 * 4) ((((x2 >>> ((4 : Int32) &&& 31)) &&& 65535) >>> ((4 : Int32) &&& 31)) - (((x2 >>> ((4 : Int32) &&& 31)) &&& 65535) >>> ((4 : Int32) &&& 31)) / 30 * 30)).2 := ⟨congrArg Prod.fst hw, congrArg Prod.snd hw⟩
      rw [ht] at hB
      have hP := hB
      have hS := hS1
      clear hS1
      generalize H1 = H at hP hS ⊢
      refine W.widen (k := 1) (n := 6) (by omega) (by omega) ?_
      have hJ_159_4 : J (jc0 + 0) (w_addStock σ (((x2 >>> ((4 : Int32) &&& 31)) &&& 65535) - ((x2 >>> ((4 : Int32) &&& 31)) &&& 65535) / 4 * 4) ((((x2 >>> ((4 : Int32) &&& 31)) &&& 65535) >>> ((2 : Int32) &&& 31)) - (((x2 >>> ((4 : Int32) &&& 31)) &&& 65535) >>> ((2 : Int32) &&& 31)) / 4 * 4) ((((x2 >>> ((4 : Int32) &&& 31)) &&& 65535) >>> ((4 : Int32) &&& 31)) - (((x2 >>> ((4 : Int32) &&& 31)) &&& 65535) >>> ((4 : Int32) &&& 31)) / 30 * 30)).2 := hJ.mono (hJ.k_addStock _ _ _ h0 (by omega)) (by omega)
      have hq_159_5 : (w_addStock σ (((x2 >>> ((4 : Int32) &&& 31)) &&& 65535) - ((x2 >>> ((4 : Int32) &&& 31)) &&& 65535) / 4 * 4) ((((x2 >>> ((4 : Int32) &&& 31)) &&& 65535) >>> ((2 : Int32) &&& 31)) - (((x2 >>> ((4 : Int32) &&& 31)) &&& 65535) >>> ((2 : Int32) &&& 31)) / 4 * 4) ((((x2 >>> ((4 : Int32) &&& 31)) &&& 65535) >>> ((4 : Int32) &&& 31)) - (((x2 >>> ((4 : Int32) &&& 31)) &&& 65535) >>> ((4 : Int32) &&& 31)) / 30 * 30)).2.1 0 = ((w_addStock σ (((x2 >>> ((4 : Int32) &&& 31)) &&& 65535) - ((x2 >>> ((4 : Int32) &&& 31)) &&& 65535) / 4 * 4) ((((x2 >>> ((4 : Int32) &&& 31)) &&& 65535) >>> ((2 : Int32) &&& 31)) - (((x2 >>> ((4 : Int32) &&& 31)) &&& 65535) >>> ((2 : Int32) &&& 31)) / 4 * 4) ((((x2 >>> ((4 : Int32) &&& 31)) &&& 65535) >>> ((4 : Int32) &&& 31)) - (((x2 >>> ((4 : Int32) &&& 31)) &&& 65535) >>> ((4 : Int32) &&& 31)) / 30 * 30)).2.1 0) := rfl
      have hg_159_5 : G ((w_addStock σ (((x2 >>> ((4 : Int32) &&& 31)) &&& 65535) - ((x2 >>> ((4 : Int32) &&& 31)) &&& 65535) / 4 * 4) ((((x2 >>> ((4 : Int32) &&& 31)) &&& 65535) >>> ((2 : Int32) &&& 31)) - (((x2 >>> ((4 : Int32) &&& 31)) &&& 65535) >>> ((2 : Int32) &&& 31)) / 4 * 4) ((((x2 >>> ((4 : Int32) &&& 31)) &&& 65535) >>> ((4 : Int32) &&& 31)) - (((x2 >>> ((4 : Int32) &&& 31)) &&& 65535) >>> ((4 : Int32) &&& 31)) / 30 * 30)).2.1 0) := hJ.gr hJ_159_4 (by omega) hq_159_5
      refine W.widen (k := 26) (n := 3756) (by omega) (by omega) ?_
      exact W.iret (v := ((w_addStock σ (((x2 >>> ((4 : Int32) &&& 31)) &&& 65535) - ((x2 >>> ((4 : Int32) &&& 31)) &&& 65535) / 4 * 4) ((((x2 >>> ((4 : Int32) &&& 31)) &&& 65535) >>> ((2 : Int32) &&& 31)) - (((x2 >>> ((4 : Int32) &&& 31)) &&& 65535) >>> ((2 : Int32) &&& 31)) / 4 * 4) ((((x2 >>> ((4 : Int32) &&& 31)) &&& 65535) >>> ((4 : Int32) &&& 31)) - (((x2 >>> ((4 : Int32) &&& 31)) &&& 65535) >>> ((4 : Int32) &&& 31)) / 30 * 30)).1)) hx hb hr (fun t ht hW => ⟨⟨((w_addStock σ (((x2 >>> ((4 : Int32) &&& 31)) &&& 65535) - ((x2 >>> ((4 : Int32) &&& 31)) &&& 65535) / 4 * 4) ((((x2 >>> ((4 : Int32) &&& 31)) &&& 65535) >>> ((2 : Int32) &&& 31)) - (((x2 >>> ((4 : Int32) &&& 31)) &&& 65535) >>> ((2 : Int32) &&& 31)) / 4 * 4) ((((x2 >>> ((4 : Int32) &&& 31)) &&& 65535) >>> ((4 : Int32) &&& 31)) - (((x2 >>> ((4 : Int32) &&& 31)) &&& 65535) >>> ((4 : Int32) &&& 31)) / 30 * 30)).1), (w_addStock σ (((x2 >>> ((4 : Int32) &&& 31)) &&& 65535) - ((x2 >>> ((4 : Int32) &&& 31)) &&& 65535) / 4 * 4) ((((x2 >>> ((4 : Int32) &&& 31)) &&& 65535) >>> ((2 : Int32) &&& 31)) - (((x2 >>> ((4 : Int32) &&& 31)) &&& 65535) >>> ((2 : Int32) &&& 31)) / 4 * 4) ((((x2 >>> ((4 : Int32) &&& 31)) &&& 65535) >>> ((4 : Int32) &&& 31)) - (((x2 >>> ((4 : Int32) &&& 31)) &&& 65535) >>> ((4 : Int32) &&& 31)) / 30 * 30)).2, rfl, ⟨fun h9 => (hJ.f_addStock _ _ _ h0 (by omega) h9).trans hq, hJ.mono hJ_159_4 (by omega)⟩, by show ft_LW D k Z sz a _ t.heap; rw [ht]; exact hP⟩, hS.F ht⟩) hS.2.2 dL_act_162
    by_cases k_41_4 : (x2 &&& 15) = 4
    · skip
      refine lv_tableIn (tgt := 163) (off := 122) hx hb dL_act_41 (by rw [k_41_4]; decide) (by rw [k_41_4]; decide) (by rw [k_41_4]; rfl) (by decide) ?_
      refine lv_aload_n hx hb dL_act_163 rfl (lv_at hl 3 rfl) ?_
      refine lv_iload_n hx hb dL_act_164 rfl (lv_at hl 1 rfl) ?_
      refine lv_iload hx hb dL_act_165 (lv_at hl 0 rfl) ?_
      refine va_calli (vx_runSW (As := [.ref (a), .int (((x2 >>> ((4 : Int32) &&& 31)) &&& 65535) - ((x2 >>> ((4 : Int32) &&& 31)) &&& 65535) / 4 * 4), .int ((((x2 >>> ((4 : Int32) &&& 31)) &&& 65535) >>> ((3 : Int32) &&& 31)) - (((x2 >>> ((4 : Int32) &&& 31)) &&& 65535) >>> ((3 : Int32) &&& 31)) / 8 * 8)]) (rest := []) ⟨hx, hb, hml, hown, hts⟩ (d_L_grantPermit l hl0 D Z k sz a σ (((x2 >>> ((4 : Int32) &&& 31)) &&& 65535) - ((x2 >>> ((4 : Int32) &&& 31)) &&& 65535) / 4 * 4) ((((x2 >>> ((4 : Int32) &&& 31)) &&& 65535) >>> ((3 : Int32) &&& 31)) - (((x2 >>> ((4 : Int32) &&& 31)) &&& 65535) >>> ((3 : Int32) &&& 31)) / 8 * 8) (hJ.pm h0) (hJ.ex_grantPermit _ _ h0 (by omega))) (vx_cwSW 3 hts gL_act_L_grantPermit rfl rfl rfl (by decide +kernel) ⟨Nat.le_of_ble_eq_true rfl, Nat.le_of_ble_eq_true rfl⟩) (ft_preM hEL hz hS hP) rfl rfl hl.1 rfl (lv_room (Nat.le_of_ble_eq_true rfl)) dL_act_167 ⟨Nat.le_of_ble_eq_true rfl, Nat.le_of_ble_eq_true rfl⟩) hS (fun _ _ h => h) (fun _ h => h) (fun z u t H1 locs1 ht hvm hw hB hz1 hk1 hS1 => ?_)
      obtain ⟨rfl, rfl⟩ : z = (w_grantPermit σ (((x2 >>> ((4 : Int32) &&& 31)) &&& 65535) - ((x2 >>> ((4 : Int32) &&& 31)) &&& 65535) / 4 * 4) ((((x2 >>> ((4 : Int32) &&& 31)) &&& 65535) >>> ((3 : Int32) &&& 31)) - (((x2 >>> ((4 : Int32) &&& 31)) &&& 65535) >>> ((3 : Int32) &&& 31)) / 8 * 8)).1 ∧ u = (w_grantPermit σ (((x2 >>> ((4 : Int32) &&& 31)) &&& 65535) - ((x2 >>> ((4 : Int32) &&& 31)) &&& 65535) / 4 * 4) ((((x2 >>> ((4 : Int32) &&& 31)) &&& 65535) >>> ((3 : Int32) &&& 31)) - (((x2 >>> ((4 : Int32) &&& 31)) &&& 65535) >>> ((3 : Int32) &&& 31)) / 8 * 8)).2 := ⟨congrArg Prod.fst hw, congrArg Prod.snd hw⟩
      rw [ht] at hB
      have hP := hB
      have hS := hS1
      clear hS1
      generalize H1 = H at hP hS ⊢
      refine W.widen (k := 1) (n := 6) (by omega) (by omega) ?_
      have hJ_167_5 : J (jc0 + 0) (w_grantPermit σ (((x2 >>> ((4 : Int32) &&& 31)) &&& 65535) - ((x2 >>> ((4 : Int32) &&& 31)) &&& 65535) / 4 * 4) ((((x2 >>> ((4 : Int32) &&& 31)) &&& 65535) >>> ((3 : Int32) &&& 31)) - (((x2 >>> ((4 : Int32) &&& 31)) &&& 65535) >>> ((3 : Int32) &&& 31)) / 8 * 8)).2 := hJ.mono (hJ.k_grantPermit _ _ h0 (by omega)) (by omega)
      have hq_167_6 : (w_grantPermit σ (((x2 >>> ((4 : Int32) &&& 31)) &&& 65535) - ((x2 >>> ((4 : Int32) &&& 31)) &&& 65535) / 4 * 4) ((((x2 >>> ((4 : Int32) &&& 31)) &&& 65535) >>> ((3 : Int32) &&& 31)) - (((x2 >>> ((4 : Int32) &&& 31)) &&& 65535) >>> ((3 : Int32) &&& 31)) / 8 * 8)).2.1 0 = ((w_grantPermit σ (((x2 >>> ((4 : Int32) &&& 31)) &&& 65535) - ((x2 >>> ((4 : Int32) &&& 31)) &&& 65535) / 4 * 4) ((((x2 >>> ((4 : Int32) &&& 31)) &&& 65535) >>> ((3 : Int32) &&& 31)) - (((x2 >>> ((4 : Int32) &&& 31)) &&& 65535) >>> ((3 : Int32) &&& 31)) / 8 * 8)).2.1 0) := rfl
      have hg_167_6 : G ((w_grantPermit σ (((x2 >>> ((4 : Int32) &&& 31)) &&& 65535) - ((x2 >>> ((4 : Int32) &&& 31)) &&& 65535) / 4 * 4) ((((x2 >>> ((4 : Int32) &&& 31)) &&& 65535) >>> ((3 : Int32) &&& 31)) - (((x2 >>> ((4 : Int32) &&& 31)) &&& 65535) >>> ((3 : Int32) &&& 31)) / 8 * 8)).2.1 0) := hJ.gr hJ_167_5 (by omega) hq_167_6
      refine W.widen (k := 26) (n := 3756) (by omega) (by omega) ?_
      exact W.iret (v := ((w_grantPermit σ (((x2 >>> ((4 : Int32) &&& 31)) &&& 65535) - ((x2 >>> ((4 : Int32) &&& 31)) &&& 65535) / 4 * 4) ((((x2 >>> ((4 : Int32) &&& 31)) &&& 65535) >>> ((3 : Int32) &&& 31)) - (((x2 >>> ((4 : Int32) &&& 31)) &&& 65535) >>> ((3 : Int32) &&& 31)) / 8 * 8)).1)) hx hb hr (fun t ht hW => ⟨⟨((w_grantPermit σ (((x2 >>> ((4 : Int32) &&& 31)) &&& 65535) - ((x2 >>> ((4 : Int32) &&& 31)) &&& 65535) / 4 * 4) ((((x2 >>> ((4 : Int32) &&& 31)) &&& 65535) >>> ((3 : Int32) &&& 31)) - (((x2 >>> ((4 : Int32) &&& 31)) &&& 65535) >>> ((3 : Int32) &&& 31)) / 8 * 8)).1), (w_grantPermit σ (((x2 >>> ((4 : Int32) &&& 31)) &&& 65535) - ((x2 >>> ((4 : Int32) &&& 31)) &&& 65535) / 4 * 4) ((((x2 >>> ((4 : Int32) &&& 31)) &&& 65535) >>> ((3 : Int32) &&& 31)) - (((x2 >>> ((4 : Int32) &&& 31)) &&& 65535) >>> ((3 : Int32) &&& 31)) / 8 * 8)).2, rfl, ⟨fun h9 => (hJ.f_grantPermit _ _ h0 (by omega) h9).trans hq, hJ.mono hJ_167_5 (by omega)⟩, by show ft_LW D k Z sz a _ t.heap; rw [ht]; exact hP⟩, hS.F ht⟩) hS.2.2 dL_act_170
    by_cases k_41_5 : (x2 &&& 15) = 5
    · skip
      refine lv_tableIn (tgt := 171) (off := 130) hx hb dL_act_41 (by rw [k_41_5]; decide) (by rw [k_41_5]; decide) (by rw [k_41_5]; rfl) (by decide) ?_
      refine lv_iload_n hx hb dL_act_171 rfl (lv_at hl 2 rfl) ?_
      refine lv_bipush (v := 64) hx hb dL_act_172 (by decide) ?_
      refine lv_iand hx hb dL_act_174 ?_
      refine lv_if_ne (tgt := 188) hx hb dL_act_175 (by decide) (fun c_175 => ?_) (fun c_175 => ?_)
      · skip
        refine lv_aload_n hx hb dL_act_188 rfl (lv_at hl 3 rfl) ?_
        refine lv_iload_n hx hb dL_act_189 rfl (lv_at hl 1 rfl) ?_
        refine lv_iload hx hb dL_act_190 (lv_at hl 0 rfl) ?_
        refine va_calli (vx_runSW (As := [.ref (a), .int (((x2 >>> ((4 : Int32) &&& 31)) &&& 65535) - ((x2 >>> ((4 : Int32) &&& 31)) &&& 65535) / 4 * 4), .int ((((x2 >>> ((4 : Int32) &&& 31)) &&& 65535) >>> ((3 : Int32) &&& 31)) - (((x2 >>> ((4 : Int32) &&& 31)) &&& 65535) >>> ((3 : Int32) &&& 31)) / 8 * 8)]) (rest := []) ⟨hx, hb, hml, hown, hts⟩ (d_L_grantPermit l hl0 D Z k sz a σ (((x2 >>> ((4 : Int32) &&& 31)) &&& 65535) - ((x2 >>> ((4 : Int32) &&& 31)) &&& 65535) / 4 * 4) ((((x2 >>> ((4 : Int32) &&& 31)) &&& 65535) >>> ((3 : Int32) &&& 31)) - (((x2 >>> ((4 : Int32) &&& 31)) &&& 65535) >>> ((3 : Int32) &&& 31)) / 8 * 8) (hJ.pm h0) (hJ.ex_grantPermit _ _ h0 (by omega))) (vx_cwSW 3 hts gL_act_L_grantPermit rfl rfl rfl (by decide +kernel) ⟨Nat.le_of_ble_eq_true rfl, Nat.le_of_ble_eq_true rfl⟩) (ft_preM hEL hz hS hP) rfl rfl hl.1 rfl (lv_room (Nat.le_of_ble_eq_true rfl)) dL_act_192 ⟨Nat.le_of_ble_eq_true rfl, Nat.le_of_ble_eq_true rfl⟩) hS (fun _ _ h => h) (fun _ h => h) (fun z u t H1 locs1 ht hvm hw hB hz1 hk1 hS1 => ?_)
        obtain ⟨rfl, rfl⟩ : z = (w_grantPermit σ (((x2 >>> ((4 : Int32) &&& 31)) &&& 65535) - ((x2 >>> ((4 : Int32) &&& 31)) &&& 65535) / 4 * 4) ((((x2 >>> ((4 : Int32) &&& 31)) &&& 65535) >>> ((3 : Int32) &&& 31)) - (((x2 >>> ((4 : Int32) &&& 31)) &&& 65535) >>> ((3 : Int32) &&& 31)) / 8 * 8)).1 ∧ u = (w_grantPermit σ (((x2 >>> ((4 : Int32) &&& 31)) &&& 65535) - ((x2 >>> ((4 : Int32) &&& 31)) &&& 65535) / 4 * 4) ((((x2 >>> ((4 : Int32) &&& 31)) &&& 65535) >>> ((3 : Int32) &&& 31)) - (((x2 >>> ((4 : Int32) &&& 31)) &&& 65535) >>> ((3 : Int32) &&& 31)) / 8 * 8)).2 := ⟨congrArg Prod.fst hw, congrArg Prod.snd hw⟩
        rw [ht] at hB
        have hP := hB
        have hS := hS1
        clear hS1
        generalize H1 = H at hP hS ⊢
        refine W.widen (k := 1) (n := 6) (by omega) (by omega) ?_
        have hJ_192_6 : J (jc0 + 0) (w_grantPermit σ (((x2 >>> ((4 : Int32) &&& 31)) &&& 65535) - ((x2 >>> ((4 : Int32) &&& 31)) &&& 65535) / 4 * 4) ((((x2 >>> ((4 : Int32) &&& 31)) &&& 65535) >>> ((3 : Int32) &&& 31)) - (((x2 >>> ((4 : Int32) &&& 31)) &&& 65535) >>> ((3 : Int32) &&& 31)) / 8 * 8)).2 := hJ.mono (hJ.k_grantPermit _ _ h0 (by omega)) (by omega)
        have hq_192_7 : (w_grantPermit σ (((x2 >>> ((4 : Int32) &&& 31)) &&& 65535) - ((x2 >>> ((4 : Int32) &&& 31)) &&& 65535) / 4 * 4) ((((x2 >>> ((4 : Int32) &&& 31)) &&& 65535) >>> ((3 : Int32) &&& 31)) - (((x2 >>> ((4 : Int32) &&& 31)) &&& 65535) >>> ((3 : Int32) &&& 31)) / 8 * 8)).2.1 0 = ((w_grantPermit σ (((x2 >>> ((4 : Int32) &&& 31)) &&& 65535) - ((x2 >>> ((4 : Int32) &&& 31)) &&& 65535) / 4 * 4) ((((x2 >>> ((4 : Int32) &&& 31)) &&& 65535) >>> ((3 : Int32) &&& 31)) - (((x2 >>> ((4 : Int32) &&& 31)) &&& 65535) >>> ((3 : Int32) &&& 31)) / 8 * 8)).2.1 0) := rfl
        have hg_192_7 : G ((w_grantPermit σ (((x2 >>> ((4 : Int32) &&& 31)) &&& 65535) - ((x2 >>> ((4 : Int32) &&& 31)) &&& 65535) / 4 * 4) ((((x2 >>> ((4 : Int32) &&& 31)) &&& 65535) >>> ((3 : Int32) &&& 31)) - (((x2 >>> ((4 : Int32) &&& 31)) &&& 65535) >>> ((3 : Int32) &&& 31)) / 8 * 8)).2.1 0) := hJ.gr hJ_192_6 (by omega) hq_192_7
        refine W.widen (k := 26) (n := 3756) (by omega) (by omega) ?_
        exact W.iret (v := ((w_grantPermit σ (((x2 >>> ((4 : Int32) &&& 31)) &&& 65535) - ((x2 >>> ((4 : Int32) &&& 31)) &&& 65535) / 4 * 4) ((((x2 >>> ((4 : Int32) &&& 31)) &&& 65535) >>> ((3 : Int32) &&& 31)) - (((x2 >>> ((4 : Int32) &&& 31)) &&& 65535) >>> ((3 : Int32) &&& 31)) / 8 * 8)).1)) hx hb hr (fun t ht hW => ⟨⟨((w_grantPermit σ (((x2 >>> ((4 : Int32) &&& 31)) &&& 65535) - ((x2 >>> ((4 : Int32) &&& 31)) &&& 65535) / 4 * 4) ((((x2 >>> ((4 : Int32) &&& 31)) &&& 65535) >>> ((3 : Int32) &&& 31)) - (((x2 >>> ((4 : Int32) &&& 31)) &&& 65535) >>> ((3 : Int32) &&& 31)) / 8 * 8)).1), (w_grantPermit σ (((x2 >>> ((4 : Int32) &&& 31)) &&& 65535) - ((x2 >>> ((4 : Int32) &&& 31)) &&& 65535) / 4 * 4) ((((x2 >>> ((4 : Int32) &&& 31)) &&& 65535) >>> ((3 : Int32) &&& 31)) - (((x2 >>> ((4 : Int32) &&& 31)) &&& 65535) >>> ((3 : Int32) &&& 31)) / 8 * 8)).2, rfl, ⟨fun h9 => (hJ.f_grantPermit _ _ h0 (by omega) h9).trans hq, hJ.mono hJ_192_6 (by omega)⟩, by show ft_LW D k Z sz a _ t.heap; rw [ht]; exact hP⟩, hS.F ht⟩) hS.2.2 dL_act_195
      · skip
        refine lv_aload_n hx hb dL_act_178 rfl (lv_at hl 3 rfl) ?_
        refine lv_iload_n hx hb dL_act_179 rfl (lv_at hl 1 rfl) ?_
        refine lv_iload hx hb dL_act_180 (lv_at hl 0 rfl) ?_
        refine va_calli (vx_runSW (As := [.ref (a), .int (((x2 >>> ((4 : Int32) &&& 31)) &&& 65535) - ((x2 >>> ((4 : Int32) &&& 31)) &&& 65535) / 4 * 4), .int ((((x2 >>> ((4 : Int32) &&& 31)) &&& 65535) >>> ((3 : Int32) &&& 31)) - (((x2 >>> ((4 : Int32) &&& 31)) &&& 65535) >>> ((3 : Int32) &&& 31)) / 8 * 8)]) (rest := []) ⟨hx, hb, hml, hown, hts⟩ (d_L_revokePermit l hl0 D Z k sz a σ (((x2 >>> ((4 : Int32) &&& 31)) &&& 65535) - ((x2 >>> ((4 : Int32) &&& 31)) &&& 65535) / 4 * 4) ((((x2 >>> ((4 : Int32) &&& 31)) &&& 65535) >>> ((3 : Int32) &&& 31)) - (((x2 >>> ((4 : Int32) &&& 31)) &&& 65535) >>> ((3 : Int32) &&& 31)) / 8 * 8) (hJ.pm h0) (hJ.ex_revokePermit _ _ h0 (by omega))) (vx_cwSW 3 hts gL_act_L_revokePermit rfl rfl rfl (by decide +kernel) ⟨Nat.le_of_ble_eq_true rfl, Nat.le_of_ble_eq_true rfl⟩) (ft_preM hEL hz hS hP) rfl rfl hl.1 rfl (lv_room (Nat.le_of_ble_eq_true rfl)) dL_act_182 ⟨Nat.le_of_ble_eq_true rfl, Nat.le_of_ble_eq_true rfl⟩) hS (fun _ _ h => h) (fun _ h => h) (fun z u t H1 locs1 ht hvm hw hB hz1 hk1 hS1 => ?_)
        obtain ⟨rfl, rfl⟩ : z = (w_revokePermit σ (((x2 >>> ((4 : Int32) &&& 31)) &&& 65535) - ((x2 >>> ((4 : Int32) &&& 31)) &&& 65535) / 4 * 4) ((((x2 >>> ((4 : Int32) &&& 31)) &&& 65535) >>> ((3 : Int32) &&& 31)) - (((x2 >>> ((4 : Int32) &&& 31)) &&& 65535) >>> ((3 : Int32) &&& 31)) / 8 * 8)).1 ∧ u = (w_revokePermit σ (((x2 >>> ((4 : Int32) &&& 31)) &&& 65535) - ((x2 >>> ((4 : Int32) &&& 31)) &&& 65535) / 4 * 4) ((((x2 >>> ((4 : Int32) &&& 31)) &&& 65535) >>> ((3 : Int32) &&& 31)) - (((x2 >>> ((4 : Int32) &&& 31)) &&& 65535) >>> ((3 : Int32) &&& 31)) / 8 * 8)).2 := ⟨congrArg Prod.fst hw, congrArg Prod.snd hw⟩
        rw [ht] at hB
        have hP := hB
        have hS := hS1
        clear hS1
        generalize H1 = H at hP hS ⊢
        refine W.widen (k := 1) (n := 6) (by omega) (by omega) ?_
        have hJ_182_7 : J (jc0 + 0) (w_revokePermit σ (((x2 >>> ((4 : Int32) &&& 31)) &&& 65535) - ((x2 >>> ((4 : Int32) &&& 31)) &&& 65535) / 4 * 4) ((((x2 >>> ((4 : Int32) &&& 31)) &&& 65535) >>> ((3 : Int32) &&& 31)) - (((x2 >>> ((4 : Int32) &&& 31)) &&& 65535) >>> ((3 : Int32) &&& 31)) / 8 * 8)).2 := hJ.mono (hJ.k_revokePermit _ _ h0 (by omega)) (by omega)
        have hq_182_8 : (w_revokePermit σ (((x2 >>> ((4 : Int32) &&& 31)) &&& 65535) - ((x2 >>> ((4 : Int32) &&& 31)) &&& 65535) / 4 * 4) ((((x2 >>> ((4 : Int32) &&& 31)) &&& 65535) >>> ((3 : Int32) &&& 31)) - (((x2 >>> ((4 : Int32) &&& 31)) &&& 65535) >>> ((3 : Int32) &&& 31)) / 8 * 8)).2.1 0 = ((w_revokePermit σ (((x2 >>> ((4 : Int32) &&& 31)) &&& 65535) - ((x2 >>> ((4 : Int32) &&& 31)) &&& 65535) / 4 * 4) ((((x2 >>> ((4 : Int32) &&& 31)) &&& 65535) >>> ((3 : Int32) &&& 31)) - (((x2 >>> ((4 : Int32) &&& 31)) &&& 65535) >>> ((3 : Int32) &&& 31)) / 8 * 8)).2.1 0) := rfl
        have hg_182_8 : G ((w_revokePermit σ (((x2 >>> ((4 : Int32) &&& 31)) &&& 65535) - ((x2 >>> ((4 : Int32) &&& 31)) &&& 65535) / 4 * 4) ((((x2 >>> ((4 : Int32) &&& 31)) &&& 65535) >>> ((3 : Int32) &&& 31)) - (((x2 >>> ((4 : Int32) &&& 31)) &&& 65535) >>> ((3 : Int32) &&& 31)) / 8 * 8)).2.1 0) := hJ.gr hJ_182_7 (by omega) hq_182_8
        refine lv_goto (tgt := 195) hx hb dL_act_185 (by decide) ?_
        refine W.widen (k := 26) (n := 3756) (by omega) (by omega) ?_
        exact W.iret (v := ((w_revokePermit σ (((x2 >>> ((4 : Int32) &&& 31)) &&& 65535) - ((x2 >>> ((4 : Int32) &&& 31)) &&& 65535) / 4 * 4) ((((x2 >>> ((4 : Int32) &&& 31)) &&& 65535) >>> ((3 : Int32) &&& 31)) - (((x2 >>> ((4 : Int32) &&& 31)) &&& 65535) >>> ((3 : Int32) &&& 31)) / 8 * 8)).1)) hx hb hr (fun t ht hW => ⟨⟨((w_revokePermit σ (((x2 >>> ((4 : Int32) &&& 31)) &&& 65535) - ((x2 >>> ((4 : Int32) &&& 31)) &&& 65535) / 4 * 4) ((((x2 >>> ((4 : Int32) &&& 31)) &&& 65535) >>> ((3 : Int32) &&& 31)) - (((x2 >>> ((4 : Int32) &&& 31)) &&& 65535) >>> ((3 : Int32) &&& 31)) / 8 * 8)).1), (w_revokePermit σ (((x2 >>> ((4 : Int32) &&& 31)) &&& 65535) - ((x2 >>> ((4 : Int32) &&& 31)) &&& 65535) / 4 * 4) ((((x2 >>> ((4 : Int32) &&& 31)) &&& 65535) >>> ((3 : Int32) &&& 31)) - (((x2 >>> ((4 : Int32) &&& 31)) &&& 65535) >>> ((3 : Int32) &&& 31)) / 8 * 8)).2, rfl, ⟨fun h9 => (hJ.f_revokePermit _ _ h0 (by omega) h9).trans hq, hJ.mono hJ_182_7 (by omega)⟩, by show ft_LW D k Z sz a _ t.heap; rw [ht]; exact hP⟩, hS.F ht⟩) hS.2.2 dL_act_195
    by_cases k_41_6 : (x2 &&& 15) = 6
    · skip
      refine lv_tableIn (tgt := 196) (off := 155) hx hb dL_act_41 (by rw [k_41_6]; decide) (by rw [k_41_6]; decide) (by rw [k_41_6]; rfl) (by decide) ?_
      refine lv_aload_n hx hb dL_act_196 rfl (lv_at hl 3 rfl) ?_
      refine lv_iload_n hx hb dL_act_197 rfl (lv_at hl 1 rfl) ?_
      refine lv_iload_n hx hb dL_act_198 rfl (lv_at hl 2 rfl) ?_
      refine lv_iconst (v := 4) hx hb dL_act_199 (by decide) ?_
      refine lv_ishr hx hb dL_act_200 ?_
      refine lv_bipush (v := 6) hx hb dL_act_201 (by decide) ?_
      refine lv_irem hx hb dL_act_203 (by decide) ?_
      refine lv_iload hx hb dL_act_204 (lv_at hl 0 rfl) ?_
      refine va_calli (vx_runSW (As := [.ref (a), .int (((x2 >>> ((4 : Int32) &&& 31)) &&& 65535) - ((x2 >>> ((4 : Int32) &&& 31)) &&& 65535) / 4 * 4), .int ((((x2 >>> ((4 : Int32) &&& 31)) &&& 65535) >>> ((4 : Int32) &&& 31)) - (((x2 >>> ((4 : Int32) &&& 31)) &&& 65535) >>> ((4 : Int32) &&& 31)) / 6 * 6), .int ((((x2 >>> ((4 : Int32) &&& 31)) &&& 65535) >>> ((3 : Int32) &&& 31)) - (((x2 >>> ((4 : Int32) &&& 31)) &&& 65535) >>> ((3 : Int32) &&& 31)) / 8 * 8)]) (rest := []) ⟨hx, hb, hml, hown, hts⟩ (d_L_assign l hl0 D Z k sz a σ (((x2 >>> ((4 : Int32) &&& 31)) &&& 65535) - ((x2 >>> ((4 : Int32) &&& 31)) &&& 65535) / 4 * 4) ((((x2 >>> ((4 : Int32) &&& 31)) &&& 65535) >>> ((4 : Int32) &&& 31)) - (((x2 >>> ((4 : Int32) &&& 31)) &&& 65535) >>> ((4 : Int32) &&& 31)) / 6 * 6) ((((x2 >>> ((4 : Int32) &&& 31)) &&& 65535) >>> ((3 : Int32) &&& 31)) - (((x2 >>> ((4 : Int32) &&& 31)) &&& 65535) >>> ((3 : Int32) &&& 31)) / 8 * 8) (hJ.pm h0) (hJ.ex_assign _ _ _ h0 (by omega))) (vx_cwSW 4 hts gL_act_L_assign rfl rfl rfl (by decide +kernel) ⟨Nat.le_of_ble_eq_true rfl, Nat.le_of_ble_eq_true rfl⟩) (ft_preM hEL hz hS hP) rfl rfl hl.1 rfl (lv_room (Nat.le_of_ble_eq_true rfl)) dL_act_206 ⟨Nat.le_of_ble_eq_true rfl, Nat.le_of_ble_eq_true rfl⟩) hS (fun _ _ h => h) (fun _ h => h) (fun z u t H1 locs1 ht hvm hw hB hz1 hk1 hS1 => ?_)
      obtain ⟨rfl, rfl⟩ : z = (w_assign σ (((x2 >>> ((4 : Int32) &&& 31)) &&& 65535) - ((x2 >>> ((4 : Int32) &&& 31)) &&& 65535) / 4 * 4) ((((x2 >>> ((4 : Int32) &&& 31)) &&& 65535) >>> ((4 : Int32) &&& 31)) - (((x2 >>> ((4 : Int32) &&& 31)) &&& 65535) >>> ((4 : Int32) &&& 31)) / 6 * 6) ((((x2 >>> ((4 : Int32) &&& 31)) &&& 65535) >>> ((3 : Int32) &&& 31)) - (((x2 >>> ((4 : Int32) &&& 31)) &&& 65535) >>> ((3 : Int32) &&& 31)) / 8 * 8)).1 ∧ u = (w_assign σ (((x2 >>> ((4 : Int32) &&& 31)) &&& 65535) - ((x2 >>> ((4 : Int32) &&& 31)) &&& 65535) / 4 * 4) ((((x2 >>> ((4 : Int32) &&& 31)) &&& 65535) >>> ((4 : Int32) &&& 31)) - (((x2 >>> ((4 : Int32) &&& 31)) &&& 65535) >>> ((4 : Int32) &&& 31)) / 6 * 6) ((((x2 >>> ((4 : Int32) &&& 31)) &&& 65535) >>> ((3 : Int32) &&& 31)) - (((x2 >>> ((4 : Int32) &&& 31)) &&& 65535) >>> ((3 : Int32) &&& 31)) / 8 * 8)).2 := ⟨congrArg Prod.fst hw, congrArg Prod.snd hw⟩
      rw [ht] at hB
      have hP := hB
      have hS := hS1
      clear hS1
      generalize H1 = H at hP hS ⊢
      refine W.widen (k := 1) (n := 6) (by omega) (by omega) ?_
      have hJ_206_8 : J (jc0 + 0) (w_assign σ (((x2 >>> ((4 : Int32) &&& 31)) &&& 65535) - ((x2 >>> ((4 : Int32) &&& 31)) &&& 65535) / 4 * 4) ((((x2 >>> ((4 : Int32) &&& 31)) &&& 65535) >>> ((4 : Int32) &&& 31)) - (((x2 >>> ((4 : Int32) &&& 31)) &&& 65535) >>> ((4 : Int32) &&& 31)) / 6 * 6) ((((x2 >>> ((4 : Int32) &&& 31)) &&& 65535) >>> ((3 : Int32) &&& 31)) - (((x2 >>> ((4 : Int32) &&& 31)) &&& 65535) >>> ((3 : Int32) &&& 31)) / 8 * 8)).2 := hJ.mono (hJ.k_assign _ _ _ h0 (by omega)) (by omega)
      have hq_206_9 : (w_assign σ (((x2 >>> ((4 : Int32) &&& 31)) &&& 65535) - ((x2 >>> ((4 : Int32) &&& 31)) &&& 65535) / 4 * 4) ((((x2 >>> ((4 : Int32) &&& 31)) &&& 65535) >>> ((4 : Int32) &&& 31)) - (((x2 >>> ((4 : Int32) &&& 31)) &&& 65535) >>> ((4 : Int32) &&& 31)) / 6 * 6) ((((x2 >>> ((4 : Int32) &&& 31)) &&& 65535) >>> ((3 : Int32) &&& 31)) - (((x2 >>> ((4 : Int32) &&& 31)) &&& 65535) >>> ((3 : Int32) &&& 31)) / 8 * 8)).2.1 0 = ((w_assign σ (((x2 >>> ((4 : Int32) &&& 31)) &&& 65535) - ((x2 >>> ((4 : Int32) &&& 31)) &&& 65535) / 4 * 4) ((((x2 >>> ((4 : Int32) &&& 31)) &&& 65535) >>> ((4 : Int32) &&& 31)) - (((x2 >>> ((4 : Int32) &&& 31)) &&& 65535) >>> ((4 : Int32) &&& 31)) / 6 * 6) ((((x2 >>> ((4 : Int32) &&& 31)) &&& 65535) >>> ((3 : Int32) &&& 31)) - (((x2 >>> ((4 : Int32) &&& 31)) &&& 65535) >>> ((3 : Int32) &&& 31)) / 8 * 8)).2.1 0) := rfl
      have hg_206_9 : G ((w_assign σ (((x2 >>> ((4 : Int32) &&& 31)) &&& 65535) - ((x2 >>> ((4 : Int32) &&& 31)) &&& 65535) / 4 * 4) ((((x2 >>> ((4 : Int32) &&& 31)) &&& 65535) >>> ((4 : Int32) &&& 31)) - (((x2 >>> ((4 : Int32) &&& 31)) &&& 65535) >>> ((4 : Int32) &&& 31)) / 6 * 6) ((((x2 >>> ((4 : Int32) &&& 31)) &&& 65535) >>> ((3 : Int32) &&& 31)) - (((x2 >>> ((4 : Int32) &&& 31)) &&& 65535) >>> ((3 : Int32) &&& 31)) / 8 * 8)).2.1 0) := hJ.gr hJ_206_8 (by omega) hq_206_9
      refine W.widen (k := 26) (n := 3756) (by omega) (by omega) ?_
      exact W.iret (v := ((w_assign σ (((x2 >>> ((4 : Int32) &&& 31)) &&& 65535) - ((x2 >>> ((4 : Int32) &&& 31)) &&& 65535) / 4 * 4) ((((x2 >>> ((4 : Int32) &&& 31)) &&& 65535) >>> ((4 : Int32) &&& 31)) - (((x2 >>> ((4 : Int32) &&& 31)) &&& 65535) >>> ((4 : Int32) &&& 31)) / 6 * 6) ((((x2 >>> ((4 : Int32) &&& 31)) &&& 65535) >>> ((3 : Int32) &&& 31)) - (((x2 >>> ((4 : Int32) &&& 31)) &&& 65535) >>> ((3 : Int32) &&& 31)) / 8 * 8)).1)) hx hb hr (fun t ht hW => ⟨⟨((w_assign σ (((x2 >>> ((4 : Int32) &&& 31)) &&& 65535) - ((x2 >>> ((4 : Int32) &&& 31)) &&& 65535) / 4 * 4) ((((x2 >>> ((4 : Int32) &&& 31)) &&& 65535) >>> ((4 : Int32) &&& 31)) - (((x2 >>> ((4 : Int32) &&& 31)) &&& 65535) >>> ((4 : Int32) &&& 31)) / 6 * 6) ((((x2 >>> ((4 : Int32) &&& 31)) &&& 65535) >>> ((3 : Int32) &&& 31)) - (((x2 >>> ((4 : Int32) &&& 31)) &&& 65535) >>> ((3 : Int32) &&& 31)) / 8 * 8)).1), (w_assign σ (((x2 >>> ((4 : Int32) &&& 31)) &&& 65535) - ((x2 >>> ((4 : Int32) &&& 31)) &&& 65535) / 4 * 4) ((((x2 >>> ((4 : Int32) &&& 31)) &&& 65535) >>> ((4 : Int32) &&& 31)) - (((x2 >>> ((4 : Int32) &&& 31)) &&& 65535) >>> ((4 : Int32) &&& 31)) / 6 * 6) ((((x2 >>> ((4 : Int32) &&& 31)) &&& 65535) >>> ((3 : Int32) &&& 31)) - (((x2 >>> ((4 : Int32) &&& 31)) &&& 65535) >>> ((3 : Int32) &&& 31)) / 8 * 8)).2, rfl, ⟨fun h9 => (hJ.f_assign _ _ _ h0 (by omega) h9).trans hq, hJ.mono hJ_206_8 (by omega)⟩, by show ft_LW D k Z sz a _ t.heap; rw [ht]; exact hP⟩, hS.F ht⟩) hS.2.2 dL_act_209
    by_cases k_41_7 : (x2 &&& 15) = 7
    · skip
      refine lv_tableIn (tgt := 196) (off := 155) hx hb dL_act_41 (by rw [k_41_7]; decide) (by rw [k_41_7]; decide) (by rw [k_41_7]; rfl) (by decide) ?_
      refine lv_aload_n hx hb dL_act_196 rfl (lv_at hl 3 rfl) ?_
      refine lv_iload_n hx hb dL_act_197 rfl (lv_at hl 1 rfl) ?_
      refine lv_iload_n hx hb dL_act_198 rfl (lv_at hl 2 rfl) ?_
      refine lv_iconst (v := 4) hx hb dL_act_199 (by decide) ?_
      refine lv_ishr hx hb dL_act_200 ?_
      refine lv_bipush (v := 6) hx hb dL_act_201 (by decide) ?_
      refine lv_irem hx hb dL_act_203 (by decide) ?_
      refine lv_iload hx hb dL_act_204 (lv_at hl 0 rfl) ?_
      refine va_calli (vx_runSW (As := [.ref (a), .int (((x2 >>> ((4 : Int32) &&& 31)) &&& 65535) - ((x2 >>> ((4 : Int32) &&& 31)) &&& 65535) / 4 * 4), .int ((((x2 >>> ((4 : Int32) &&& 31)) &&& 65535) >>> ((4 : Int32) &&& 31)) - (((x2 >>> ((4 : Int32) &&& 31)) &&& 65535) >>> ((4 : Int32) &&& 31)) / 6 * 6), .int ((((x2 >>> ((4 : Int32) &&& 31)) &&& 65535) >>> ((3 : Int32) &&& 31)) - (((x2 >>> ((4 : Int32) &&& 31)) &&& 65535) >>> ((3 : Int32) &&& 31)) / 8 * 8)]) (rest := []) ⟨hx, hb, hml, hown, hts⟩ (d_L_assign l hl0 D Z k sz a σ (((x2 >>> ((4 : Int32) &&& 31)) &&& 65535) - ((x2 >>> ((4 : Int32) &&& 31)) &&& 65535) / 4 * 4) ((((x2 >>> ((4 : Int32) &&& 31)) &&& 65535) >>> ((4 : Int32) &&& 31)) - (((x2 >>> ((4 : Int32) &&& 31)) &&& 65535) >>> ((4 : Int32) &&& 31)) / 6 * 6) ((((x2 >>> ((4 : Int32) &&& 31)) &&& 65535) >>> ((3 : Int32) &&& 31)) - (((x2 >>> ((4 : Int32) &&& 31)) &&& 65535) >>> ((3 : Int32) &&& 31)) / 8 * 8) (hJ.pm h0) (hJ.ex_assign _ _ _ h0 (by omega))) (vx_cwSW 4 hts gL_act_L_assign rfl rfl rfl (by decide +kernel) ⟨Nat.le_of_ble_eq_true rfl, Nat.le_of_ble_eq_true rfl⟩) (ft_preM hEL hz hS hP) rfl rfl hl.1 rfl (lv_room (Nat.le_of_ble_eq_true rfl)) dL_act_206 ⟨Nat.le_of_ble_eq_true rfl, Nat.le_of_ble_eq_true rfl⟩) hS (fun _ _ h => h) (fun _ h => h) (fun z u t H1 locs1 ht hvm hw hB hz1 hk1 hS1 => ?_)
      obtain ⟨rfl, rfl⟩ : z = (w_assign σ (((x2 >>> ((4 : Int32) &&& 31)) &&& 65535) - ((x2 >>> ((4 : Int32) &&& 31)) &&& 65535) / 4 * 4) ((((x2 >>> ((4 : Int32) &&& 31)) &&& 65535) >>> ((4 : Int32) &&& 31)) - (((x2 >>> ((4 : Int32) &&& 31)) &&& 65535) >>> ((4 : Int32) &&& 31)) / 6 * 6) ((((x2 >>> ((4 : Int32) &&& 31)) &&& 65535) >>> ((3 : Int32) &&& 31)) - (((x2 >>> ((4 : Int32) &&& 31)) &&& 65535) >>> ((3 : Int32) &&& 31)) / 8 * 8)).1 ∧ u = (w_assign σ (((x2 >>> ((4 : Int32) &&& 31)) &&& 65535) - ((x2 >>> ((4 : Int32) &&& 31)) &&& 65535) / 4 * 4) ((((x2 >>> ((4 : Int32) &&& 31)) &&& 65535) >>> ((4 : Int32) &&& 31)) - (((x2 >>> ((4 : Int32) &&& 31)) &&& 65535) >>> ((4 : Int32) &&& 31)) / 6 * 6) ((((x2 >>> ((4 : Int32) &&& 31)) &&& 65535) >>> ((3 : Int32) &&& 31)) - (((x2 >>> ((4 : Int32) &&& 31)) &&& 65535) >>> ((3 : Int32) &&& 31)) / 8 * 8)).2 := ⟨congrArg Prod.fst hw, congrArg Prod.snd hw⟩
      rw [ht] at hB
      have hP := hB
      have hS := hS1
      clear hS1
      generalize H1 = H at hP hS ⊢
      refine W.widen (k := 1) (n := 6) (by omega) (by omega) ?_
      have hJ_206_9 : J (jc0 + 0) (w_assign σ (((x2 >>> ((4 : Int32) &&& 31)) &&& 65535) - ((x2 >>> ((4 : Int32) &&& 31)) &&& 65535) / 4 * 4) ((((x2 >>> ((4 : Int32) &&& 31)) &&& 65535) >>> ((4 : Int32) &&& 31)) - (((x2 >>> ((4 : Int32) &&& 31)) &&& 65535) >>> ((4 : Int32) &&& 31)) / 6 * 6) ((((x2 >>> ((4 : Int32) &&& 31)) &&& 65535) >>> ((3 : Int32) &&& 31)) - (((x2 >>> ((4 : Int32) &&& 31)) &&& 65535) >>> ((3 : Int32) &&& 31)) / 8 * 8)).2 := hJ.mono (hJ.k_assign _ _ _ h0 (by omega)) (by omega)
      have hq_206_10 : (w_assign σ (((x2 >>> ((4 : Int32) &&& 31)) &&& 65535) - ((x2 >>> ((4 : Int32) &&& 31)) &&& 65535) / 4 * 4) ((((x2 >>> ((4 : Int32) &&& 31)) &&& 65535) >>> ((4 : Int32) &&& 31)) - (((x2 >>> ((4 : Int32) &&& 31)) &&& 65535) >>> ((4 : Int32) &&& 31)) / 6 * 6) ((((x2 >>> ((4 : Int32) &&& 31)) &&& 65535) >>> ((3 : Int32) &&& 31)) - (((x2 >>> ((4 : Int32) &&& 31)) &&& 65535) >>> ((3 : Int32) &&& 31)) / 8 * 8)).2.1 0 = ((w_assign σ (((x2 >>> ((4 : Int32) &&& 31)) &&& 65535) - ((x2 >>> ((4 : Int32) &&& 31)) &&& 65535) / 4 * 4) ((((x2 >>> ((4 : Int32) &&& 31)) &&& 65535) >>> ((4 : Int32) &&& 31)) - (((x2 >>> ((4 : Int32) &&& 31)) &&& 65535) >>> ((4 : Int32) &&& 31)) / 6 * 6) ((((x2 >>> ((4 : Int32) &&& 31)) &&& 65535) >>> ((3 : Int32) &&& 31)) - (((x2 >>> ((4 : Int32) &&& 31)) &&& 65535) >>> ((3 : Int32) &&& 31)) / 8 * 8)).2.1 0) := rfl
      have hg_206_10 : G ((w_assign σ (((x2 >>> ((4 : Int32) &&& 31)) &&& 65535) - ((x2 >>> ((4 : Int32) &&& 31)) &&& 65535) / 4 * 4) ((((x2 >>> ((4 : Int32) &&& 31)) &&& 65535) >>> ((4 : Int32) &&& 31)) - (((x2 >>> ((4 : Int32) &&& 31)) &&& 65535) >>> ((4 : Int32) &&& 31)) / 6 * 6) ((((x2 >>> ((4 : Int32) &&& 31)) &&& 65535) >>> ((3 : Int32) &&& 31)) - (((x2 >>> ((4 : Int32) &&& 31)) &&& 65535) >>> ((3 : Int32) &&& 31)) / 8 * 8)).2.1 0) := hJ.gr hJ_206_9 (by omega) hq_206_10
      refine W.widen (k := 26) (n := 3756) (by omega) (by omega) ?_
      exact W.iret (v := ((w_assign σ (((x2 >>> ((4 : Int32) &&& 31)) &&& 65535) - ((x2 >>> ((4 : Int32) &&& 31)) &&& 65535) / 4 * 4) ((((x2 >>> ((4 : Int32) &&& 31)) &&& 65535) >>> ((4 : Int32) &&& 31)) - (((x2 >>> ((4 : Int32) &&& 31)) &&& 65535) >>> ((4 : Int32) &&& 31)) / 6 * 6) ((((x2 >>> ((4 : Int32) &&& 31)) &&& 65535) >>> ((3 : Int32) &&& 31)) - (((x2 >>> ((4 : Int32) &&& 31)) &&& 65535) >>> ((3 : Int32) &&& 31)) / 8 * 8)).1)) hx hb hr (fun t ht hW => ⟨⟨((w_assign σ (((x2 >>> ((4 : Int32) &&& 31)) &&& 65535) - ((x2 >>> ((4 : Int32) &&& 31)) &&& 65535) / 4 * 4) ((((x2 >>> ((4 : Int32) &&& 31)) &&& 65535) >>> ((4 : Int32) &&& 31)) - (((x2 >>> ((4 : Int32) &&& 31)) &&& 65535) >>> ((4 : Int32) &&& 31)) / 6 * 6) ((((x2 >>> ((4 : Int32) &&& 31)) &&& 65535) >>> ((3 : Int32) &&& 31)) - (((x2 >>> ((4 : Int32) &&& 31)) &&& 65535) >>> ((3 : Int32) &&& 31)) / 8 * 8)).1), (w_assign σ (((x2 >>> ((4 : Int32) &&& 31)) &&& 65535) - ((x2 >>> ((4 : Int32) &&& 31)) &&& 65535) / 4 * 4) ((((x2 >>> ((4 : Int32) &&& 31)) &&& 65535) >>> ((4 : Int32) &&& 31)) - (((x2 >>> ((4 : Int32) &&& 31)) &&& 65535) >>> ((4 : Int32) &&& 31)) / 6 * 6) ((((x2 >>> ((4 : Int32) &&& 31)) &&& 65535) >>> ((3 : Int32) &&& 31)) - (((x2 >>> ((4 : Int32) &&& 31)) &&& 65535) >>> ((3 : Int32) &&& 31)) / 8 * 8)).2, rfl, ⟨fun h9 => (hJ.f_assign _ _ _ h0 (by omega) h9).trans hq, hJ.mono hJ_206_9 (by omega)⟩, by show ft_LW D k Z sz a _ t.heap; rw [ht]; exact hP⟩, hS.F ht⟩) hS.2.2 dL_act_209
    by_cases k_41_8 : (x2 &&& 15) = 8
    · skip
      refine lv_tableIn (tgt := 210) (off := 169) hx hb dL_act_41 (by rw [k_41_8]; decide) (by rw [k_41_8]; decide) (by rw [k_41_8]; rfl) (by decide) ?_
      refine lv_aload_n hx hb dL_act_210 rfl (lv_at hl 3 rfl) ?_
      refine lv_iload_n hx hb dL_act_211 rfl (lv_at hl 2 rfl) ?_
      refine lv_iconst (v := 4) hx hb dL_act_212 (by decide) ?_
      refine lv_ishr hx hb dL_act_213 ?_
      refine lv_bipush (v := 6) hx hb dL_act_214 (by decide) ?_
      refine lv_irem hx hb dL_act_216 (by decide) ?_
      refine lv_iload hx hb dL_act_217 (lv_at hl 0 rfl) ?_
      refine va_calli (vx_runSW (As := [.ref (a), .int ((((x2 >>> ((4 : Int32) &&& 31)) &&& 65535) >>> ((4 : Int32) &&& 31)) - (((x2 >>> ((4 : Int32) &&& 31)) &&& 65535) >>> ((4 : Int32) &&& 31)) / 6 * 6), .int ((((x2 >>> ((4 : Int32) &&& 31)) &&& 65535) >>> ((3 : Int32) &&& 31)) - (((x2 >>> ((4 : Int32) &&& 31)) &&& 65535) >>> ((3 : Int32) &&& 31)) / 8 * 8)]) (rest := []) ⟨hx, hb, hml, hown, hts⟩ (d_L_release l hl0 D Z k sz a σ ((((x2 >>> ((4 : Int32) &&& 31)) &&& 65535) >>> ((4 : Int32) &&& 31)) - (((x2 >>> ((4 : Int32) &&& 31)) &&& 65535) >>> ((4 : Int32) &&& 31)) / 6 * 6) ((((x2 >>> ((4 : Int32) &&& 31)) &&& 65535) >>> ((3 : Int32) &&& 31)) - (((x2 >>> ((4 : Int32) &&& 31)) &&& 65535) >>> ((3 : Int32) &&& 31)) / 8 * 8) (hJ.pm h0) (hJ.ex_release _ _ h0 (by omega))) (vx_cwSW 3 hts gL_act_L_release rfl rfl rfl (by decide +kernel) ⟨Nat.le_of_ble_eq_true rfl, Nat.le_of_ble_eq_true rfl⟩) (ft_preM hEL hz hS hP) rfl rfl hl.1 rfl (lv_room (Nat.le_of_ble_eq_true rfl)) dL_act_219 ⟨Nat.le_of_ble_eq_true rfl, Nat.le_of_ble_eq_true rfl⟩) hS (fun _ _ h => h) (fun _ h => h) (fun z u t H1 locs1 ht hvm hw hB hz1 hk1 hS1 => ?_)
      obtain ⟨rfl, rfl⟩ : z = (w_release σ ((((x2 >>> ((4 : Int32) &&& 31)) &&& 65535) >>> ((4 : Int32) &&& 31)) - (((x2 >>> ((4 : Int32) &&& 31)) &&& 65535) >>> ((4 : Int32) &&& 31)) / 6 * 6) ((((x2 >>> ((4 : Int32) &&& 31)) &&& 65535) >>> ((3 : Int32) &&& 31)) - (((x2 >>> ((4 : Int32) &&& 31)) &&& 65535) >>> ((3 : Int32) &&& 31)) / 8 * 8)).1 ∧ u = (w_release σ ((((x2 >>> ((4 : Int32) &&& 31)) &&& 65535) >>> ((4 : Int32) &&& 31)) - (((x2 >>> ((4 : Int32) &&& 31)) &&& 65535) >>> ((4 : Int32) &&& 31)) / 6 * 6) ((((x2 >>> ((4 : Int32) &&& 31)) &&& 65535) >>> ((3 : Int32) &&& 31)) - (((x2 >>> ((4 : Int32) &&& 31)) &&& 65535) >>> ((3 : Int32) &&& 31)) / 8 * 8)).2 := ⟨congrArg Prod.fst hw, congrArg Prod.snd hw⟩
      rw [ht] at hB
      have hP := hB
      have hS := hS1
      clear hS1
      generalize H1 = H at hP hS ⊢
      refine W.widen (k := 1) (n := 6) (by omega) (by omega) ?_
      have hJ_219_10 : J (jc0 + 0) (w_release σ ((((x2 >>> ((4 : Int32) &&& 31)) &&& 65535) >>> ((4 : Int32) &&& 31)) - (((x2 >>> ((4 : Int32) &&& 31)) &&& 65535) >>> ((4 : Int32) &&& 31)) / 6 * 6) ((((x2 >>> ((4 : Int32) &&& 31)) &&& 65535) >>> ((3 : Int32) &&& 31)) - (((x2 >>> ((4 : Int32) &&& 31)) &&& 65535) >>> ((3 : Int32) &&& 31)) / 8 * 8)).2 := hJ.mono (hJ.k_release _ _ h0 (by omega)) (by omega)
      have hq_219_11 : (w_release σ ((((x2 >>> ((4 : Int32) &&& 31)) &&& 65535) >>> ((4 : Int32) &&& 31)) - (((x2 >>> ((4 : Int32) &&& 31)) &&& 65535) >>> ((4 : Int32) &&& 31)) / 6 * 6) ((((x2 >>> ((4 : Int32) &&& 31)) &&& 65535) >>> ((3 : Int32) &&& 31)) - (((x2 >>> ((4 : Int32) &&& 31)) &&& 65535) >>> ((3 : Int32) &&& 31)) / 8 * 8)).2.1 0 = ((w_release σ ((((x2 >>> ((4 : Int32) &&& 31)) &&& 65535) >>> ((4 : Int32) &&& 31)) - (((x2 >>> ((4 : Int32) &&& 31)) &&& 65535) >>> ((4 : Int32) &&& 31)) / 6 * 6) ((((x2 >>> ((4 : Int32) &&& 31)) &&& 65535) >>> ((3 : Int32) &&& 31)) - (((x2 >>> ((4 : Int32) &&& 31)) &&& 65535) >>> ((3 : Int32) &&& 31)) / 8 * 8)).2.1 0) := rfl
      have hg_219_11 : G ((w_release σ ((((x2 >>> ((4 : Int32) &&& 31)) &&& 65535) >>> ((4 : Int32) &&& 31)) - (((x2 >>> ((4 : Int32) &&& 31)) &&& 65535) >>> ((4 : Int32) &&& 31)) / 6 * 6) ((((x2 >>> ((4 : Int32) &&& 31)) &&& 65535) >>> ((3 : Int32) &&& 31)) - (((x2 >>> ((4 : Int32) &&& 31)) &&& 65535) >>> ((3 : Int32) &&& 31)) / 8 * 8)).2.1 0) := hJ.gr hJ_219_10 (by omega) hq_219_11
      refine W.widen (k := 26) (n := 3756) (by omega) (by omega) ?_
      exact W.iret (v := ((w_release σ ((((x2 >>> ((4 : Int32) &&& 31)) &&& 65535) >>> ((4 : Int32) &&& 31)) - (((x2 >>> ((4 : Int32) &&& 31)) &&& 65535) >>> ((4 : Int32) &&& 31)) / 6 * 6) ((((x2 >>> ((4 : Int32) &&& 31)) &&& 65535) >>> ((3 : Int32) &&& 31)) - (((x2 >>> ((4 : Int32) &&& 31)) &&& 65535) >>> ((3 : Int32) &&& 31)) / 8 * 8)).1)) hx hb hr (fun t ht hW => ⟨⟨((w_release σ ((((x2 >>> ((4 : Int32) &&& 31)) &&& 65535) >>> ((4 : Int32) &&& 31)) - (((x2 >>> ((4 : Int32) &&& 31)) &&& 65535) >>> ((4 : Int32) &&& 31)) / 6 * 6) ((((x2 >>> ((4 : Int32) &&& 31)) &&& 65535) >>> ((3 : Int32) &&& 31)) - (((x2 >>> ((4 : Int32) &&& 31)) &&& 65535) >>> ((3 : Int32) &&& 31)) / 8 * 8)).1), (w_release σ ((((x2 >>> ((4 : Int32) &&& 31)) &&& 65535) >>> ((4 : Int32) &&& 31)) - (((x2 >>> ((4 : Int32) &&& 31)) &&& 65535) >>> ((4 : Int32) &&& 31)) / 6 * 6) ((((x2 >>> ((4 : Int32) &&& 31)) &&& 65535) >>> ((3 : Int32) &&& 31)) - (((x2 >>> ((4 : Int32) &&& 31)) &&& 65535) >>> ((3 : Int32) &&& 31)) / 8 * 8)).2, rfl, ⟨fun h9 => (hJ.f_release _ _ h0 (by omega) h9).trans hq, hJ.mono hJ_219_10 (by omega)⟩, by show ft_LW D k Z sz a _ t.heap; rw [ht]; exact hP⟩, hS.F ht⟩) hS.2.2 dL_act_222
    by_cases k_41_9 : (x2 &&& 15) = 9
    · skip
      refine lv_tableIn (tgt := 223) (off := 182) hx hb dL_act_41 (by rw [k_41_9]; decide) (by rw [k_41_9]; decide) (by rw [k_41_9]; rfl) (by decide) ?_
      refine lv_aload_n hx hb dL_act_223 rfl (lv_at hl 3 rfl) ?_
      refine lv_iload_n hx hb dL_act_224 rfl (lv_at hl 2 rfl) ?_
      refine lv_iconst (v := 2) hx hb dL_act_225 (by decide) ?_
      refine lv_ishr hx hb dL_act_226 ?_
      refine lv_iconst (v := 5) hx hb dL_act_227 (by decide) ?_
      refine lv_irem hx hb dL_act_228 (by decide) ?_
      refine va_calli (vx_runSW (As := [.ref (a), .int ((((x2 >>> ((4 : Int32) &&& 31)) &&& 65535) >>> ((2 : Int32) &&& 31)) - (((x2 >>> ((4 : Int32) &&& 31)) &&& 65535) >>> ((2 : Int32) &&& 31)) / 5 * 5)]) (rest := []) ⟨hx, hb, hml, hown, hts⟩ (d_L_setWeather l hl0 D Z k sz a σ ((((x2 >>> ((4 : Int32) &&& 31)) &&& 65535) >>> ((2 : Int32) &&& 31)) - (((x2 >>> ((4 : Int32) &&& 31)) &&& 65535) >>> ((2 : Int32) &&& 31)) / 5 * 5) (hJ.pm h0) (hJ.ex_setWeather _ h0 (by omega))) (vx_cwSW 2 hts gL_act_L_setWeather rfl rfl rfl (by decide +kernel) ⟨Nat.le_of_ble_eq_true rfl, Nat.le_of_ble_eq_true rfl⟩) (ft_preM hEL hz hS hP) rfl rfl hl.1 rfl (lv_room (Nat.le_of_ble_eq_true rfl)) dL_act_229 ⟨Nat.le_of_ble_eq_true rfl, Nat.le_of_ble_eq_true rfl⟩) hS (fun _ _ h => h) (fun _ h => h) (fun z u t H1 locs1 ht hvm hw hB hz1 hk1 hS1 => ?_)
      obtain ⟨rfl, rfl⟩ : z = (w_setWeather σ ((((x2 >>> ((4 : Int32) &&& 31)) &&& 65535) >>> ((2 : Int32) &&& 31)) - (((x2 >>> ((4 : Int32) &&& 31)) &&& 65535) >>> ((2 : Int32) &&& 31)) / 5 * 5)).1 ∧ u = (w_setWeather σ ((((x2 >>> ((4 : Int32) &&& 31)) &&& 65535) >>> ((2 : Int32) &&& 31)) - (((x2 >>> ((4 : Int32) &&& 31)) &&& 65535) >>> ((2 : Int32) &&& 31)) / 5 * 5)).2 := ⟨congrArg Prod.fst hw, congrArg Prod.snd hw⟩
      rw [ht] at hB
      have hP := hB
      have hS := hS1
      clear hS1
      generalize H1 = H at hP hS ⊢
      refine W.widen (k := 1) (n := 6) (by omega) (by omega) ?_
      have hJ_229_11 : J (jc0 + 0) (w_setWeather σ ((((x2 >>> ((4 : Int32) &&& 31)) &&& 65535) >>> ((2 : Int32) &&& 31)) - (((x2 >>> ((4 : Int32) &&& 31)) &&& 65535) >>> ((2 : Int32) &&& 31)) / 5 * 5)).2 := hJ.mono (hJ.k_setWeather _ h0 (by omega)) (by omega)
      have hq_229_12 : (w_setWeather σ ((((x2 >>> ((4 : Int32) &&& 31)) &&& 65535) >>> ((2 : Int32) &&& 31)) - (((x2 >>> ((4 : Int32) &&& 31)) &&& 65535) >>> ((2 : Int32) &&& 31)) / 5 * 5)).2.1 0 = ((w_setWeather σ ((((x2 >>> ((4 : Int32) &&& 31)) &&& 65535) >>> ((2 : Int32) &&& 31)) - (((x2 >>> ((4 : Int32) &&& 31)) &&& 65535) >>> ((2 : Int32) &&& 31)) / 5 * 5)).2.1 0) := rfl
      have hg_229_12 : G ((w_setWeather σ ((((x2 >>> ((4 : Int32) &&& 31)) &&& 65535) >>> ((2 : Int32) &&& 31)) - (((x2 >>> ((4 : Int32) &&& 31)) &&& 65535) >>> ((2 : Int32) &&& 31)) / 5 * 5)).2.1 0) := hJ.gr hJ_229_11 (by omega) hq_229_12
      refine W.widen (k := 26) (n := 3756) (by omega) (by omega) ?_
      exact W.iret (v := ((w_setWeather σ ((((x2 >>> ((4 : Int32) &&& 31)) &&& 65535) >>> ((2 : Int32) &&& 31)) - (((x2 >>> ((4 : Int32) &&& 31)) &&& 65535) >>> ((2 : Int32) &&& 31)) / 5 * 5)).1)) hx hb hr (fun t ht hW => ⟨⟨((w_setWeather σ ((((x2 >>> ((4 : Int32) &&& 31)) &&& 65535) >>> ((2 : Int32) &&& 31)) - (((x2 >>> ((4 : Int32) &&& 31)) &&& 65535) >>> ((2 : Int32) &&& 31)) / 5 * 5)).1), (w_setWeather σ ((((x2 >>> ((4 : Int32) &&& 31)) &&& 65535) >>> ((2 : Int32) &&& 31)) - (((x2 >>> ((4 : Int32) &&& 31)) &&& 65535) >>> ((2 : Int32) &&& 31)) / 5 * 5)).2, rfl, ⟨fun h9 => (hJ.f_setWeather _ h0 (by omega) h9).trans hq, hJ.mono hJ_229_11 (by omega)⟩, by show ft_LW D k Z sz a _ t.heap; rw [ht]; exact hP⟩, hS.F ht⟩) hS.2.2 dL_act_232
    by_cases k_41_10 : (x2 &&& 15) = 10
    · skip
      refine lv_tableIn (tgt := 233) (off := 192) hx hb dL_act_41 (by rw [k_41_10]; decide) (by rw [k_41_10]; decide) (by rw [k_41_10]; rfl) (by decide) ?_
      refine lv_aload_n hx hb dL_act_233 rfl (lv_at hl 3 rfl) ?_
      refine lv_iload_n hx hb dL_act_234 rfl (lv_at hl 2 rfl) ?_
      refine lv_iconst (v := 2) hx hb dL_act_235 (by decide) ?_
      refine lv_ishr hx hb dL_act_236 ?_
      refine lv_bipush (v := 25) hx hb dL_act_237 (by decide) ?_
      refine lv_irem hx hb dL_act_239 (by decide) ?_
      refine va_calli (vx_runSW (As := [.ref (a), .int ((((x2 >>> ((4 : Int32) &&& 31)) &&& 65535) >>> ((2 : Int32) &&& 31)) - (((x2 >>> ((4 : Int32) &&& 31)) &&& 65535) >>> ((2 : Int32) &&& 31)) / 25 * 25)]) (rest := []) ⟨hx, hb, hml, hown, hts⟩ (d_L_advance l hl0 D Z k sz a σ ((((x2 >>> ((4 : Int32) &&& 31)) &&& 65535) >>> ((2 : Int32) &&& 31)) - (((x2 >>> ((4 : Int32) &&& 31)) &&& 65535) >>> ((2 : Int32) &&& 31)) / 25 * 25) (hJ.pm h0) (hJ.ex_advance _ h0 (by omega))) (vx_cwSW 2 hts gL_act_L_advance rfl rfl rfl (by decide +kernel) ⟨Nat.le_of_ble_eq_true rfl, Nat.le_of_ble_eq_true rfl⟩) (ft_preM hEL hz hS hP) rfl rfl hl.1 rfl (lv_room (Nat.le_of_ble_eq_true rfl)) dL_act_240 ⟨Nat.le_of_ble_eq_true rfl, Nat.le_of_ble_eq_true rfl⟩) hS (fun _ _ h => h) (fun _ h => h) (fun z u t H1 locs1 ht hvm hw hB hz1 hk1 hS1 => ?_)
      obtain ⟨rfl, rfl⟩ : z = (w_advance σ ((((x2 >>> ((4 : Int32) &&& 31)) &&& 65535) >>> ((2 : Int32) &&& 31)) - (((x2 >>> ((4 : Int32) &&& 31)) &&& 65535) >>> ((2 : Int32) &&& 31)) / 25 * 25)).1 ∧ u = (w_advance σ ((((x2 >>> ((4 : Int32) &&& 31)) &&& 65535) >>> ((2 : Int32) &&& 31)) - (((x2 >>> ((4 : Int32) &&& 31)) &&& 65535) >>> ((2 : Int32) &&& 31)) / 25 * 25)).2 := ⟨congrArg Prod.fst hw, congrArg Prod.snd hw⟩
      rw [ht] at hB
      have hP := hB
      have hS := hS1
      clear hS1
      generalize H1 = H at hP hS ⊢
      refine W.widen (k := 1) (n := 6) (by omega) (by omega) ?_
      have hJ_240_12 : J (jc0 + 1) (w_advance σ ((((x2 >>> ((4 : Int32) &&& 31)) &&& 65535) >>> ((2 : Int32) &&& 31)) - (((x2 >>> ((4 : Int32) &&& 31)) &&& 65535) >>> ((2 : Int32) &&& 31)) / 25 * 25)).2 := hJ.mono (hJ.k_advance _ h0 (by omega)) (by omega)
      have hq_240_13 : (w_advance σ ((((x2 >>> ((4 : Int32) &&& 31)) &&& 65535) >>> ((2 : Int32) &&& 31)) - (((x2 >>> ((4 : Int32) &&& 31)) &&& 65535) >>> ((2 : Int32) &&& 31)) / 25 * 25)).2.1 0 = ((w_advance σ ((((x2 >>> ((4 : Int32) &&& 31)) &&& 65535) >>> ((2 : Int32) &&& 31)) - (((x2 >>> ((4 : Int32) &&& 31)) &&& 65535) >>> ((2 : Int32) &&& 31)) / 25 * 25)).2.1 0) := rfl
      have hg_240_13 : G ((w_advance σ ((((x2 >>> ((4 : Int32) &&& 31)) &&& 65535) >>> ((2 : Int32) &&& 31)) - (((x2 >>> ((4 : Int32) &&& 31)) &&& 65535) >>> ((2 : Int32) &&& 31)) / 25 * 25)).2.1 0) := hJ.gr hJ_240_12 (by omega) hq_240_13
      refine W.widen (k := 26) (n := 3756) (by omega) (by omega) ?_
      exact W.iret (v := ((w_advance σ ((((x2 >>> ((4 : Int32) &&& 31)) &&& 65535) >>> ((2 : Int32) &&& 31)) - (((x2 >>> ((4 : Int32) &&& 31)) &&& 65535) >>> ((2 : Int32) &&& 31)) / 25 * 25)).1)) hx hb hr (fun t ht hW => ⟨⟨((w_advance σ ((((x2 >>> ((4 : Int32) &&& 31)) &&& 65535) >>> ((2 : Int32) &&& 31)) - (((x2 >>> ((4 : Int32) &&& 31)) &&& 65535) >>> ((2 : Int32) &&& 31)) / 25 * 25)).1), (w_advance σ ((((x2 >>> ((4 : Int32) &&& 31)) &&& 65535) >>> ((2 : Int32) &&& 31)) - (((x2 >>> ((4 : Int32) &&& 31)) &&& 65535) >>> ((2 : Int32) &&& 31)) / 25 * 25)).2, rfl, ⟨fun h9 => (hJ.f_advance _ h0 (by omega) h9).trans hq, hJ.mono hJ_240_12 (by omega)⟩, by show ft_LW D k Z sz a _ t.heap; rw [ht]; exact hP⟩, hS.F ht⟩) hS.2.2 dL_act_243
    by_cases k_41_11 : (x2 &&& 15) = 11
    · skip
      refine lv_tableIn (tgt := 233) (off := 192) hx hb dL_act_41 (by rw [k_41_11]; decide) (by rw [k_41_11]; decide) (by rw [k_41_11]; rfl) (by decide) ?_
      refine lv_aload_n hx hb dL_act_233 rfl (lv_at hl 3 rfl) ?_
      refine lv_iload_n hx hb dL_act_234 rfl (lv_at hl 2 rfl) ?_
      refine lv_iconst (v := 2) hx hb dL_act_235 (by decide) ?_
      refine lv_ishr hx hb dL_act_236 ?_
      refine lv_bipush (v := 25) hx hb dL_act_237 (by decide) ?_
      refine lv_irem hx hb dL_act_239 (by decide) ?_
      refine va_calli (vx_runSW (As := [.ref (a), .int ((((x2 >>> ((4 : Int32) &&& 31)) &&& 65535) >>> ((2 : Int32) &&& 31)) - (((x2 >>> ((4 : Int32) &&& 31)) &&& 65535) >>> ((2 : Int32) &&& 31)) / 25 * 25)]) (rest := []) ⟨hx, hb, hml, hown, hts⟩ (d_L_advance l hl0 D Z k sz a σ ((((x2 >>> ((4 : Int32) &&& 31)) &&& 65535) >>> ((2 : Int32) &&& 31)) - (((x2 >>> ((4 : Int32) &&& 31)) &&& 65535) >>> ((2 : Int32) &&& 31)) / 25 * 25) (hJ.pm h0) (hJ.ex_advance _ h0 (by omega))) (vx_cwSW 2 hts gL_act_L_advance rfl rfl rfl (by decide +kernel) ⟨Nat.le_of_ble_eq_true rfl, Nat.le_of_ble_eq_true rfl⟩) (ft_preM hEL hz hS hP) rfl rfl hl.1 rfl (lv_room (Nat.le_of_ble_eq_true rfl)) dL_act_240 ⟨Nat.le_of_ble_eq_true rfl, Nat.le_of_ble_eq_true rfl⟩) hS (fun _ _ h => h) (fun _ h => h) (fun z u t H1 locs1 ht hvm hw hB hz1 hk1 hS1 => ?_)
      obtain ⟨rfl, rfl⟩ : z = (w_advance σ ((((x2 >>> ((4 : Int32) &&& 31)) &&& 65535) >>> ((2 : Int32) &&& 31)) - (((x2 >>> ((4 : Int32) &&& 31)) &&& 65535) >>> ((2 : Int32) &&& 31)) / 25 * 25)).1 ∧ u = (w_advance σ ((((x2 >>> ((4 : Int32) &&& 31)) &&& 65535) >>> ((2 : Int32) &&& 31)) - (((x2 >>> ((4 : Int32) &&& 31)) &&& 65535) >>> ((2 : Int32) &&& 31)) / 25 * 25)).2 := ⟨congrArg Prod.fst hw, congrArg Prod.snd hw⟩
      rw [ht] at hB
      have hP := hB
      have hS := hS1
      clear hS1
      generalize H1 = H at hP hS ⊢
      refine W.widen (k := 1) (n := 6) (by omega) (by omega) ?_
      have hJ_240_13 : J (jc0 + 1) (w_advance σ ((((x2 >>> ((4 : Int32) &&& 31)) &&& 65535) >>> ((2 : Int32) &&& 31)) - (((x2 >>> ((4 : Int32) &&& 31)) &&& 65535) >>> ((2 : Int32) &&& 31)) / 25 * 25)).2 := hJ.mono (hJ.k_advance _ h0 (by omega)) (by omega)
      have hq_240_14 : (w_advance σ ((((x2 >>> ((4 : Int32) &&& 31)) &&& 65535) >>> ((2 : Int32) &&& 31)) - (((x2 >>> ((4 : Int32) &&& 31)) &&& 65535) >>> ((2 : Int32) &&& 31)) / 25 * 25)).2.1 0 = ((w_advance σ ((((x2 >>> ((4 : Int32) &&& 31)) &&& 65535) >>> ((2 : Int32) &&& 31)) - (((x2 >>> ((4 : Int32) &&& 31)) &&& 65535) >>> ((2 : Int32) &&& 31)) / 25 * 25)).2.1 0) := rfl
      have hg_240_14 : G ((w_advance σ ((((x2 >>> ((4 : Int32) &&& 31)) &&& 65535) >>> ((2 : Int32) &&& 31)) - (((x2 >>> ((4 : Int32) &&& 31)) &&& 65535) >>> ((2 : Int32) &&& 31)) / 25 * 25)).2.1 0) := hJ.gr hJ_240_13 (by omega) hq_240_14
      refine W.widen (k := 26) (n := 3756) (by omega) (by omega) ?_
      exact W.iret (v := ((w_advance σ ((((x2 >>> ((4 : Int32) &&& 31)) &&& 65535) >>> ((2 : Int32) &&& 31)) - (((x2 >>> ((4 : Int32) &&& 31)) &&& 65535) >>> ((2 : Int32) &&& 31)) / 25 * 25)).1)) hx hb hr (fun t ht hW => ⟨⟨((w_advance σ ((((x2 >>> ((4 : Int32) &&& 31)) &&& 65535) >>> ((2 : Int32) &&& 31)) - (((x2 >>> ((4 : Int32) &&& 31)) &&& 65535) >>> ((2 : Int32) &&& 31)) / 25 * 25)).1), (w_advance σ ((((x2 >>> ((4 : Int32) &&& 31)) &&& 65535) >>> ((2 : Int32) &&& 31)) - (((x2 >>> ((4 : Int32) &&& 31)) &&& 65535) >>> ((2 : Int32) &&& 31)) / 25 * 25)).2, rfl, ⟨fun h9 => (hJ.f_advance _ h0 (by omega) h9).trans hq, hJ.mono hJ_240_13 (by omega)⟩, by show ft_LW D k Z sz a _ t.heap; rw [ht]; exact hP⟩, hS.F ht⟩) hS.2.2 dL_act_243
    by_cases k_41_12 : (x2 &&& 15) = 12
    · skip
      refine lv_tableIn (tgt := 233) (off := 192) hx hb dL_act_41 (by rw [k_41_12]; decide) (by rw [k_41_12]; decide) (by rw [k_41_12]; rfl) (by decide) ?_
      refine lv_aload_n hx hb dL_act_233 rfl (lv_at hl 3 rfl) ?_
      refine lv_iload_n hx hb dL_act_234 rfl (lv_at hl 2 rfl) ?_
      refine lv_iconst (v := 2) hx hb dL_act_235 (by decide) ?_
      refine lv_ishr hx hb dL_act_236 ?_
      refine lv_bipush (v := 25) hx hb dL_act_237 (by decide) ?_
      refine lv_irem hx hb dL_act_239 (by decide) ?_
      refine va_calli (vx_runSW (As := [.ref (a), .int ((((x2 >>> ((4 : Int32) &&& 31)) &&& 65535) >>> ((2 : Int32) &&& 31)) - (((x2 >>> ((4 : Int32) &&& 31)) &&& 65535) >>> ((2 : Int32) &&& 31)) / 25 * 25)]) (rest := []) ⟨hx, hb, hml, hown, hts⟩ (d_L_advance l hl0 D Z k sz a σ ((((x2 >>> ((4 : Int32) &&& 31)) &&& 65535) >>> ((2 : Int32) &&& 31)) - (((x2 >>> ((4 : Int32) &&& 31)) &&& 65535) >>> ((2 : Int32) &&& 31)) / 25 * 25) (hJ.pm h0) (hJ.ex_advance _ h0 (by omega))) (vx_cwSW 2 hts gL_act_L_advance rfl rfl rfl (by decide +kernel) ⟨Nat.le_of_ble_eq_true rfl, Nat.le_of_ble_eq_true rfl⟩) (ft_preM hEL hz hS hP) rfl rfl hl.1 rfl (lv_room (Nat.le_of_ble_eq_true rfl)) dL_act_240 ⟨Nat.le_of_ble_eq_true rfl, Nat.le_of_ble_eq_true rfl⟩) hS (fun _ _ h => h) (fun _ h => h) (fun z u t H1 locs1 ht hvm hw hB hz1 hk1 hS1 => ?_)
      obtain ⟨rfl, rfl⟩ : z = (w_advance σ ((((x2 >>> ((4 : Int32) &&& 31)) &&& 65535) >>> ((2 : Int32) &&& 31)) - (((x2 >>> ((4 : Int32) &&& 31)) &&& 65535) >>> ((2 : Int32) &&& 31)) / 25 * 25)).1 ∧ u = (w_advance σ ((((x2 >>> ((4 : Int32) &&& 31)) &&& 65535) >>> ((2 : Int32) &&& 31)) - (((x2 >>> ((4 : Int32) &&& 31)) &&& 65535) >>> ((2 : Int32) &&& 31)) / 25 * 25)).2 := ⟨congrArg Prod.fst hw, congrArg Prod.snd hw⟩
      rw [ht] at hB
      have hP := hB
      have hS := hS1
      clear hS1
      generalize H1 = H at hP hS ⊢
      refine W.widen (k := 1) (n := 6) (by omega) (by omega) ?_
      have hJ_240_14 : J (jc0 + 1) (w_advance σ ((((x2 >>> ((4 : Int32) &&& 31)) &&& 65535) >>> ((2 : Int32) &&& 31)) - (((x2 >>> ((4 : Int32) &&& 31)) &&& 65535) >>> ((2 : Int32) &&& 31)) / 25 * 25)).2 := hJ.mono (hJ.k_advance _ h0 (by omega)) (by omega)
      have hq_240_15 : (w_advance σ ((((x2 >>> ((4 : Int32) &&& 31)) &&& 65535) >>> ((2 : Int32) &&& 31)) - (((x2 >>> ((4 : Int32) &&& 31)) &&& 65535) >>> ((2 : Int32) &&& 31)) / 25 * 25)).2.1 0 = ((w_advance σ ((((x2 >>> ((4 : Int32) &&& 31)) &&& 65535) >>> ((2 : Int32) &&& 31)) - (((x2 >>> ((4 : Int32) &&& 31)) &&& 65535) >>> ((2 : Int32) &&& 31)) / 25 * 25)).2.1 0) := rfl
      have hg_240_15 : G ((w_advance σ ((((x2 >>> ((4 : Int32) &&& 31)) &&& 65535) >>> ((2 : Int32) &&& 31)) - (((x2 >>> ((4 : Int32) &&& 31)) &&& 65535) >>> ((2 : Int32) &&& 31)) / 25 * 25)).2.1 0) := hJ.gr hJ_240_14 (by omega) hq_240_15
      refine W.widen (k := 26) (n := 3756) (by omega) (by omega) ?_
      exact W.iret (v := ((w_advance σ ((((x2 >>> ((4 : Int32) &&& 31)) &&& 65535) >>> ((2 : Int32) &&& 31)) - (((x2 >>> ((4 : Int32) &&& 31)) &&& 65535) >>> ((2 : Int32) &&& 31)) / 25 * 25)).1)) hx hb hr (fun t ht hW => ⟨⟨((w_advance σ ((((x2 >>> ((4 : Int32) &&& 31)) &&& 65535) >>> ((2 : Int32) &&& 31)) - (((x2 >>> ((4 : Int32) &&& 31)) &&& 65535) >>> ((2 : Int32) &&& 31)) / 25 * 25)).1), (w_advance σ ((((x2 >>> ((4 : Int32) &&& 31)) &&& 65535) >>> ((2 : Int32) &&& 31)) - (((x2 >>> ((4 : Int32) &&& 31)) &&& 65535) >>> ((2 : Int32) &&& 31)) / 25 * 25)).2, rfl, ⟨fun h9 => (hJ.f_advance _ h0 (by omega) h9).trans hq, hJ.mono hJ_240_14 (by omega)⟩, by show ft_LW D k Z sz a _ t.heap; rw [ht]; exact hP⟩, hS.F ht⟩) hS.2.2 dL_act_243
    by_cases k_41_13 : (x2 &&& 15) = 13
    · skip
      refine lv_tableIn (tgt := 244) (off := 203) hx hb dL_act_41 (by rw [k_41_13]; decide) (by rw [k_41_13]; decide) (by rw [k_41_13]; rfl) (by decide) ?_
      refine lv_aload_n hx hb dL_act_244 rfl (lv_at hl 3 rfl) ?_
      refine va_gets (C := RL) hx hb hEL.2.2.2.1.1 hS hown (hts (.fieldLink RL 140 "FoodTruckRotaLaw" "SCRIPTS" "[Ljava/lang/String;") (by decide +kernel)) (fun _ h9 => h9) dL_act_245 ?_
      refine lv_iload_n hx hb dL_act_248 rfl (lv_at hl 2 rfl) ?_
      refine va_gets (C := RL) hx hb hEL.2.2.2.1.1 hS hown (hts (.fieldLink RL 140 "FoodTruckRotaLaw" "SCRIPTS" "[Ljava/lang/String;") (by decide +kernel)) (fun _ h9 => h9) dL_act_249 ?_
      refine va_tlen (v := 28) hx hb hEL.2.2.2.1.2.1 hS rfl dL_act_252 ?_
      refine lv_irem hx hb dL_act_253 (by decide) ?_
      have hj_254 : vp_in (((x2 >>> ((4 : Int32) &&& 31)) &&& 65535) - ((x2 >>> ((4 : Int32) &&& 31)) &&& 65535) / 28 * 28) 28 := ft_y28 _
      obtain ⟨cell_254, ha_254, hb_254, hc_254, hd_254, he_254⟩ := ft_tcell hEL.2.2.2.1.2.1 hS hj_254
      refine W.aald (v := .ref (Z 4 (tn (((x2 >>> ((4 : Int32) &&& 31)) &&& 65535) - ((x2 >>> ((4 : Int32) &&& 31)) &&& 65535) / 28 * 28)))) (ty := .object RJ0) hx hb ha_254 hb_254 rfl hc_254 hd_254 he_254 rfl rfl dL_act_254 ?_
      refine W.eq (g2 := F0 m 255 ls [.ref (Z 4 (tn (((x2 >>> ((4 : Int32) &&& 31)) &&& 65535) - ((x2 >>> ((4 : Int32) &&& 31)) &&& 65535) / 28 * 28))), .ref (a)]) rfl ?_
      refine va_callr (va_runS (As := [.ref (a), .ref (Z 4 (tn (((x2 >>> ((4 : Int32) &&& 31)) &&& 65535) - ((x2 >>> ((4 : Int32) &&& 31)) &&& 65535) / 28 * 28)))]) (rest := []) ⟨hx, hb, hml, hown, hts⟩ (c_L_write l hl0 D Z k sz a σ J G T hJ (jc0 + 0) h0 (by omega) r hq (tn (((x2 >>> ((4 : Int32) &&& 31)) &&& 65535) - ((x2 >>> ((4 : Int32) &&& 31)) &&& 65535) / 28 * 28)) (ft_tn hj_254) ) (va_cwS 2 hts gL_act_L_write rfl rfl rfl (by decide +kernel) ⟨Nat.le_of_ble_eq_true rfl, Nat.le_of_ble_eq_true rfl⟩) (ft_preM hEL hz hS hP) rfl rfl hl.1 rfl (lv_room (Nat.le_of_ble_eq_true rfl)) dL_act_255 ⟨Nat.le_of_ble_eq_true rfl, Nat.le_of_ble_eq_true rfl⟩) hS (fun _ _ h => h) (fun _ h => h) (fun u_255_15 ra t H1 locs1 ht hvm hw hB hz1 hk1 hS1 => ?_)
      obtain ⟨hp_u_255_15, hj_u_255_15⟩ := hw
      obtain ⟨hra, hB⟩ := hB
      replace hra := hra.symm
      subst hra
      replace hj_u_255_15 : J (jc0 + 0) u_255_15 := hJ.mono hj_u_255_15 (by omega)
      rw [ht] at hB
      have hP := hB
      have hS := hS1
      clear hS1
      generalize H1 = H at hP hS ⊢
      refine W.widen (k := 25) (n := 3750) (by omega) (by omega) ?_
      have hq_u_255_15 : u_255_15.1 0 = r := (ft_zp.row (hp_u_255_15).1).trans hq
      refine va_calli (vx_runSW (As := [.ref (a)]) (rest := []) ⟨hx, hb, hml, hown, hts⟩ (d_L_runScript l hl0 D Z k sz a u_255_15 (hJ.pm hj_u_255_15) (hJ.ok9 hj_u_255_15) (hJ.g9 hj_u_255_15) (hJ.ex_runScript hj_u_255_15 (by omega))) (vx_cwSW 1 hts gL_act_L_runScript rfl rfl rfl (by decide +kernel) ⟨Nat.le_of_ble_eq_true rfl, Nat.le_of_ble_eq_true rfl⟩) (ft_preM hEL hz hS hP) rfl rfl hl.1 rfl (lv_room (Nat.le_of_ble_eq_true rfl)) dL_act_258 ⟨Nat.le_of_ble_eq_true rfl, Nat.le_of_ble_eq_true rfl⟩) hS (fun _ _ h => h) (fun _ h => h) (fun z u t H1 locs1 ht hvm hw hB hz1 hk1 hS1 => ?_)
      obtain ⟨rfl, rfl⟩ : z = (w_runScript u_255_15).1 ∧ u = (w_runScript u_255_15).2 := ⟨congrArg Prod.fst hw, congrArg Prod.snd hw⟩
      rw [ht] at hB
      have hP := hB
      have hS := hS1
      clear hS1
      generalize H1 = H at hP hS ⊢
      refine W.widen (k := 26) (n := 3756) (by omega) (by omega) ?_
      have hJ_258_16 : J (jc0 + 1) (w_runScript u_255_15).2 := hJ.mono (hJ.k_runScript hj_u_255_15 (by omega)) (by omega)
      have hq_258_17 : (w_runScript u_255_15).2.1 0 = ((w_runScript u_255_15).2.1 0) := rfl
      have hg_258_17 : G ((w_runScript u_255_15).2.1 0) := hJ.gr hJ_258_16 (by omega) hq_258_17
      refine W.widen (k := 26) (n := 3756) (by omega) (by omega) ?_
      exact W.iret (v := ((w_runScript u_255_15).1)) hx hb hr (fun t ht hW => ⟨⟨((w_runScript u_255_15).1), (w_runScript u_255_15).2, rfl, ⟨fun h9 => (hJ.f_runScript hj_u_255_15 (by omega) h9).trans hq_u_255_15, hJ.mono hJ_258_16 (by omega)⟩, by show ft_LW D k Z sz a _ t.heap; rw [ht]; exact hP⟩, hS.F ht⟩) hS.2.2 dL_act_261
    by_cases k_41_14 : (x2 &&& 15) = 14
    · skip
      refine lv_tableIn (tgt := 244) (off := 203) hx hb dL_act_41 (by rw [k_41_14]; decide) (by rw [k_41_14]; decide) (by rw [k_41_14]; rfl) (by decide) ?_
      refine lv_aload_n hx hb dL_act_244 rfl (lv_at hl 3 rfl) ?_
      refine va_gets (C := RL) hx hb hEL.2.2.2.1.1 hS hown (hts (.fieldLink RL 140 "FoodTruckRotaLaw" "SCRIPTS" "[Ljava/lang/String;") (by decide +kernel)) (fun _ h9 => h9) dL_act_245 ?_
      refine lv_iload_n hx hb dL_act_248 rfl (lv_at hl 2 rfl) ?_
      refine va_gets (C := RL) hx hb hEL.2.2.2.1.1 hS hown (hts (.fieldLink RL 140 "FoodTruckRotaLaw" "SCRIPTS" "[Ljava/lang/String;") (by decide +kernel)) (fun _ h9 => h9) dL_act_249 ?_
      refine va_tlen (v := 28) hx hb hEL.2.2.2.1.2.1 hS rfl dL_act_252 ?_
      refine lv_irem hx hb dL_act_253 (by decide) ?_
      have hj_254 : vp_in (((x2 >>> ((4 : Int32) &&& 31)) &&& 65535) - ((x2 >>> ((4 : Int32) &&& 31)) &&& 65535) / 28 * 28) 28 := ft_y28 _
      obtain ⟨cell_254, ha_254, hb_254, hc_254, hd_254, he_254⟩ := ft_tcell hEL.2.2.2.1.2.1 hS hj_254
      refine W.aald (v := .ref (Z 4 (tn (((x2 >>> ((4 : Int32) &&& 31)) &&& 65535) - ((x2 >>> ((4 : Int32) &&& 31)) &&& 65535) / 28 * 28)))) (ty := .object RJ0) hx hb ha_254 hb_254 rfl hc_254 hd_254 he_254 rfl rfl dL_act_254 ?_
      refine W.eq (g2 := F0 m 255 ls [.ref (Z 4 (tn (((x2 >>> ((4 : Int32) &&& 31)) &&& 65535) - ((x2 >>> ((4 : Int32) &&& 31)) &&& 65535) / 28 * 28))), .ref (a)]) rfl ?_
      refine va_callr (va_runS (As := [.ref (a), .ref (Z 4 (tn (((x2 >>> ((4 : Int32) &&& 31)) &&& 65535) - ((x2 >>> ((4 : Int32) &&& 31)) &&& 65535) / 28 * 28)))]) (rest := []) ⟨hx, hb, hml, hown, hts⟩ (c_L_write l hl0 D Z k sz a σ J G T hJ (jc0 + 0) h0 (by omega) r hq (tn (((x2 >>> ((4 : Int32) &&& 31)) &&& 65535) - ((x2 >>> ((4 : Int32) &&& 31)) &&& 65535) / 28 * 28)) (ft_tn hj_254) ) (va_cwS 2 hts gL_act_L_write rfl rfl rfl (by decide +kernel) ⟨Nat.le_of_ble_eq_true rfl, Nat.le_of_ble_eq_true rfl⟩) (ft_preM hEL hz hS hP) rfl rfl hl.1 rfl (lv_room (Nat.le_of_ble_eq_true rfl)) dL_act_255 ⟨Nat.le_of_ble_eq_true rfl, Nat.le_of_ble_eq_true rfl⟩) hS (fun _ _ h => h) (fun _ h => h) (fun u_255_17 ra t H1 locs1 ht hvm hw hB hz1 hk1 hS1 => ?_)
      obtain ⟨hp_u_255_17, hj_u_255_17⟩ := hw
      obtain ⟨hra, hB⟩ := hB
      replace hra := hra.symm
      subst hra
      replace hj_u_255_17 : J (jc0 + 0) u_255_17 := hJ.mono hj_u_255_17 (by omega)
      rw [ht] at hB
      have hP := hB
      have hS := hS1
      clear hS1
      generalize H1 = H at hP hS ⊢
      refine W.widen (k := 25) (n := 3750) (by omega) (by omega) ?_
      have hq_u_255_17 : u_255_17.1 0 = r := (ft_zp.row (hp_u_255_17).1).trans hq
      refine va_calli (vx_runSW (As := [.ref (a)]) (rest := []) ⟨hx, hb, hml, hown, hts⟩ (d_L_runScript l hl0 D Z k sz a u_255_17 (hJ.pm hj_u_255_17) (hJ.ok9 hj_u_255_17) (hJ.g9 hj_u_255_17) (hJ.ex_runScript hj_u_255_17 (by omega))) (vx_cwSW 1 hts gL_act_L_runScript rfl rfl rfl (by decide +kernel) ⟨Nat.le_of_ble_eq_true rfl, Nat.le_of_ble_eq_true rfl⟩) (ft_preM hEL hz hS hP) rfl rfl hl.1 rfl (lv_room (Nat.le_of_ble_eq_true rfl)) dL_act_258 ⟨Nat.le_of_ble_eq_true rfl, Nat.le_of_ble_eq_true rfl⟩) hS (fun _ _ h => h) (fun _ h => h) (fun z u t H1 locs1 ht hvm hw hB hz1 hk1 hS1 => ?_)
      obtain ⟨rfl, rfl⟩ : z = (w_runScript u_255_17).1 ∧ u = (w_runScript u_255_17).2 := ⟨congrArg Prod.fst hw, congrArg Prod.snd hw⟩
      rw [ht] at hB
      have hP := hB
      have hS := hS1
      clear hS1
      generalize H1 = H at hP hS ⊢
      refine W.widen (k := 26) (n := 3756) (by omega) (by omega) ?_
      have hJ_258_18 : J (jc0 + 1) (w_runScript u_255_17).2 := hJ.mono (hJ.k_runScript hj_u_255_17 (by omega)) (by omega)
      have hq_258_19 : (w_runScript u_255_17).2.1 0 = ((w_runScript u_255_17).2.1 0) := rfl
      have hg_258_19 : G ((w_runScript u_255_17).2.1 0) := hJ.gr hJ_258_18 (by omega) hq_258_19
      refine W.widen (k := 26) (n := 3756) (by omega) (by omega) ?_
      exact W.iret (v := ((w_runScript u_255_17).1)) hx hb hr (fun t ht hW => ⟨⟨((w_runScript u_255_17).1), (w_runScript u_255_17).2, rfl, ⟨fun h9 => (hJ.f_runScript hj_u_255_17 (by omega) h9).trans hq_u_255_17, hJ.mono hJ_258_18 (by omega)⟩, by show ft_LW D k Z sz a _ t.heap; rw [ht]; exact hP⟩, hS.F ht⟩) hS.2.2 dL_act_261
    have j_41_0 : (x2 &&& 15).toInt ≠ 0 := ft_ne k_41_0
    have j_41_1 : (x2 &&& 15).toInt ≠ 1 := ft_ne k_41_1
    have j_41_2 : (x2 &&& 15).toInt ≠ 2 := ft_ne k_41_2
    have j_41_3 : (x2 &&& 15).toInt ≠ 3 := ft_ne k_41_3
    have j_41_4 : (x2 &&& 15).toInt ≠ 4 := ft_ne k_41_4
    have j_41_5 : (x2 &&& 15).toInt ≠ 5 := ft_ne k_41_5
    have j_41_6 : (x2 &&& 15).toInt ≠ 6 := ft_ne k_41_6
    have j_41_7 : (x2 &&& 15).toInt ≠ 7 := ft_ne k_41_7
    have j_41_8 : (x2 &&& 15).toInt ≠ 8 := ft_ne k_41_8
    have j_41_9 : (x2 &&& 15).toInt ≠ 9 := ft_ne k_41_9
    have j_41_10 : (x2 &&& 15).toInt ≠ 10 := ft_ne k_41_10
    have j_41_11 : (x2 &&& 15).toInt ≠ 11 := ft_ne k_41_11
    have j_41_12 : (x2 &&& 15).toInt ≠ 12 := ft_ne k_41_12
    have j_41_13 : (x2 &&& 15).toInt ≠ 13 := ft_ne k_41_13
    have j_41_14 : (x2 &&& 15).toInt ≠ 14 := ft_ne k_41_14
    refine lv_tableOut (tgt := 262) hx hb dL_act_41 (by omega) (by decide) ?_
    refine lv_iload_n hx hb dL_act_262 rfl (lv_at hl 2 rfl) ?_
    refine lv_iconst (v := 3) hx hb dL_act_263 (by decide) ?_
    refine lv_iand hx hb dL_act_264 ?_
    refine lv_if_ne (tgt := 275) hx hb dL_act_265 (by decide) (fun c_265 => ?_) (fun c_265 => ?_)
    · skip
      refine lv_iload_n hx hb dL_act_275 rfl (lv_at hl 2 rfl) ?_
      refine lv_iconst (v := 3) hx hb dL_act_276 (by decide) ?_
      refine lv_iand hx hb dL_act_277 ?_
      refine lv_iconst (v := 1) hx hb dL_act_278 (by decide) ?_
      refine lv_icmp_ne (tgt := 289) hx hb dL_act_279 (by decide) (fun c_279 => ?_) (fun c_279 => ?_)
      · skip
        refine lv_aload_n hx hb dL_act_289 rfl (lv_at hl 3 rfl) ?_
        refine va_calli (vx_runSW (As := [.ref (a)]) (rest := []) ⟨hx, hb, hml, hown, hts⟩ (d_L_undo l hl0 D Z k sz a σ (hJ.pm h0) (hJ.ex_undo h0 (by omega))) (vx_cwSW 1 hts gL_act_L_undo rfl rfl rfl (by decide +kernel) ⟨Nat.le_of_ble_eq_true rfl, Nat.le_of_ble_eq_true rfl⟩) (ft_preM hEL hz hS hP) rfl rfl hl.1 rfl (lv_room (Nat.le_of_ble_eq_true rfl)) dL_act_290 ⟨Nat.le_of_ble_eq_true rfl, Nat.le_of_ble_eq_true rfl⟩) hS (fun _ _ h => h) (fun _ h => h) (fun z u t H1 locs1 ht hvm hw hB hz1 hk1 hS1 => ?_)
        obtain ⟨rfl, rfl⟩ : z = (w_undo σ).1 ∧ u = (w_undo σ).2 := ⟨congrArg Prod.fst hw, congrArg Prod.snd hw⟩
        rw [ht] at hB
        have hP := hB
        have hS := hS1
        clear hS1
        generalize H1 = H at hP hS ⊢
        refine W.widen (k := 1) (n := 6) (by omega) (by omega) ?_
        have hJ_290_19 : J (jc0 + 0) (w_undo σ).2 := hJ.mono (hJ.k_undo h0 (by omega)) (by omega)
        have hq_290_20 : (w_undo σ).2.1 0 = ((w_undo σ).2.1 0) := rfl
        have hg_290_20 : G ((w_undo σ).2.1 0) := hJ.gr hJ_290_19 (by omega) hq_290_20
        refine W.widen (k := 26) (n := 3756) (by omega) (by omega) ?_
        exact W.iret (v := ((w_undo σ).1)) hx hb hr (fun t ht hW => ⟨⟨((w_undo σ).1), (w_undo σ).2, rfl, ⟨fun h9 => (hJ.f_undo h0 (by omega) h9).trans hq, hJ.mono hJ_290_19 (by omega)⟩, by show ft_LW D k Z sz a _ t.heap; rw [ht]; exact hP⟩, hS.F ht⟩) hS.2.2 dL_act_293
      · skip
        refine lv_aload_n hx hb dL_act_282 rfl (lv_at hl 3 rfl) ?_
        refine va_calli (vx_runSW (As := [.ref (a)]) (rest := []) ⟨hx, hb, hml, hown, hts⟩ (d_L_restore l hl0 D Z k sz a σ  (hJ.ex_restore h0 (by omega))) (vx_cwSW 1 hts gL_act_L_restore rfl rfl rfl (by decide +kernel) ⟨Nat.le_of_ble_eq_true rfl, Nat.le_of_ble_eq_true rfl⟩) (ft_preM hEL hz hS hP) rfl rfl hl.1 rfl (lv_room (Nat.le_of_ble_eq_true rfl)) dL_act_283 ⟨Nat.le_of_ble_eq_true rfl, Nat.le_of_ble_eq_true rfl⟩) hS (fun _ _ h => h) (fun _ h => h) (fun z u t H1 locs1 ht hvm hw hB hz1 hk1 hS1 => ?_)
        obtain ⟨rfl, rfl⟩ : z = (w_restore σ).1 ∧ u = (w_restore σ).2 := ⟨congrArg Prod.fst hw, congrArg Prod.snd hw⟩
        rw [ht] at hB
        have hP := hB
        have hS := hS1
        clear hS1
        generalize H1 = H at hP hS ⊢
        refine W.widen (k := 1) (n := 6) (by omega) (by omega) ?_
        have hJ_283_20 : J (jc0 + 0) (w_restore σ).2 := hJ.mono (hJ.k_restore h0 (by omega)) (by omega)
        have hq_283_21 : (w_restore σ).2.1 0 = ((w_restore σ).2.1 0) := rfl
        have hg_283_21 : G ((w_restore σ).2.1 0) := hJ.gr hJ_283_20 (by omega) hq_283_21
        refine lv_goto (tgt := 293) hx hb dL_act_286 (by decide) ?_
        refine W.widen (k := 26) (n := 3756) (by omega) (by omega) ?_
        exact W.iret (v := ((w_restore σ).1)) hx hb hr (fun t ht hW => ⟨⟨((w_restore σ).1), (w_restore σ).2, rfl, ⟨fun h9 => (hJ.f_restore h0 (by omega) h9).trans hq, hJ.mono hJ_283_20 (by omega)⟩, by show ft_LW D k Z sz a _ t.heap; rw [ht]; exact hP⟩, hS.F ht⟩) hS.2.2 dL_act_293
    · skip
      refine lv_aload_n hx hb dL_act_268 rfl (lv_at hl 3 rfl) ?_
      refine va_calli (va_runV (As := []) (rest := []) ⟨hx, hb, hml, hown, hts⟩ (cl_save l D Z k sz a σ) (cwV 0 hts gL_act_X7_save rfl rfl rfl (by decide +kernel) ⟨Nat.le_of_ble_eq_true rfl, Nat.le_of_ble_eq_true rfl⟩) (ft_preL hE hz hS hP) rfl rfl hl.1 rfl (lv_room (Nat.le_of_ble_eq_true rfl)) dL_act_269 ⟨Nat.le_of_ble_eq_true rfl, Nat.le_of_ble_eq_true rfl⟩) hS (fun _ _ h => h) (fun _ h => h) (fun z u t H1 locs1 ht hvm hw hB hz1 hk1 hS1 => ?_)
      obtain ⟨rfl, rfl⟩ : z = (l_save σ).1 ∧ u = (l_save σ).2 := ⟨congrArg Prod.fst hw, congrArg Prod.snd hw⟩
      rw [ht] at hB
      have hP := hB
      have hS := hS1
      clear hS1
      generalize H1 = H at hP hS ⊢
      refine W.widen (k := 0) (n := 0) (by omega) (by omega) ?_
      have hJ_269_21 : J (jc0 + 0) (l_save σ).2 := hJ.mono (hJ.k_save h0 (by omega)) (by omega)
      have hq_269_22 : (l_save σ).2.1 0 = ((l_save σ).2.1 0) := rfl
      have hg_269_22 : G ((l_save σ).2.1 0) := hJ.gr hJ_269_21 (by omega) hq_269_22
      refine lv_goto (tgt := 293) hx hb dL_act_272 (by decide) ?_
      refine W.widen (k := 26) (n := 3756) (by omega) (by omega) ?_
      exact W.iret (v := ((l_save σ).1)) hx hb hr (fun t ht hW => ⟨⟨((l_save σ).1), (l_save σ).2, rfl, ⟨fun _ => (hJ.r_save).trans hq, hJ.mono hJ_269_21 (by omega)⟩, by show ft_LW D k Z sz a _ t.heap; rw [ht]; exact hP⟩, hS.F ht⟩) hS.2.2 dL_act_293
  · skip
    refine lv_aload_n hx hb dL_act_19 rfl (lv_at hl 2 rfl) ?_
    refine vp_callSi (va_Run.run (va_runV (As := []) (rest := []) ⟨hx, hb, hml, hown, hts⟩ (cl_day l D Z k sz a σ) (cwV 0 hts gL_act_X7_day rfl rfl rfl (by decide +kernel) ⟨Nat.le_of_ble_eq_true rfl, Nat.le_of_ble_eq_true rfl⟩) (ft_preL hE hz hS hP) rfl rfl hl.1 rfl (lv_room (Nat.le_of_ble_eq_true rfl)) dL_act_20 ⟨Nat.le_of_ble_eq_true rfl, Nat.le_of_ble_eq_true rfl⟩)) (fun z hz9 => ?_)
    replace hz9 : z = l_day (ft_nr r) := hz9.trans (ft_ev (f := fun q9 => l_day (ft_nr q9)) hq rfl)
    subst hz9
    refine lv_bipush (v := 7) hx hb dL_act_23 (by decide) ?_
    refine lv_irem hx hb dL_act_25 (by decide) ?_
    refine lv_goto (tgt := 35) hx hb dL_act_26 (by decide) ?_
    refine lv_istore (lv' := [(4, .int ((l_day (ft_nr r)) - (l_day (ft_nr r)) / 7 * 7)), (3, .int (((x2 >>> ((4 : Int32) &&& 31)) &&& 65535) - ((x2 >>> ((4 : Int32) &&& 31)) &&& 65535) / 4 * 4)), (2, .int ((x2 >>> ((4 : Int32) &&& 31)) &&& 65535)), (0, .ref (a)), (1, .int (x2))]) hx hb dL_act_35 hl (by decide) rfl (fun ls hl => ?_)
    refine lv_iload_n hx hb dL_act_37 rfl (lv_at hl 4 rfl) ?_
    refine lv_bipush (v := 15) hx hb dL_act_38 (by decide) ?_
    refine lv_iand hx hb dL_act_40 ?_
    by_cases k_41_0 : (x2 &&& 15) = 0
    · skip
      refine lv_tableIn (tgt := 116) (off := 75) hx hb dL_act_41 (by rw [k_41_0]; decide) (by rw [k_41_0]; decide) (by rw [k_41_0]; rfl) (by decide) ?_
      refine lv_iload_n hx hb dL_act_116 rfl (lv_at hl 2 rfl) ?_
      refine lv_bipush (v := 64) hx hb dL_act_117 (by decide) ?_
      refine lv_iand hx hb dL_act_119 ?_
      refine lv_if_ne (tgt := 130) hx hb dL_act_120 (by decide) (fun c_120 => ?_) (fun c_120 => ?_)
      · skip
        refine lv_aload_n hx hb dL_act_130 rfl (lv_at hl 3 rfl) ?_
        refine lv_iload_n hx hb dL_act_131 rfl (lv_at hl 2 rfl) ?_
        refine lv_iconst (v := 2) hx hb dL_act_132 (by decide) ?_
        refine lv_ishr hx hb dL_act_133 ?_
        refine lv_iconst (v := 5) hx hb dL_act_134 (by decide) ?_
        refine lv_irem hx hb dL_act_135 (by decide) ?_
        refine lv_iload_n hx hb dL_act_136 rfl (lv_at hl 2 rfl) ?_
        refine lv_iconst (v := 4) hx hb dL_act_137 (by decide) ?_
        refine lv_ishr hx hb dL_act_138 ?_
        refine lv_bipush (v := 22) hx hb dL_act_139 (by decide) ?_
        refine lv_irem hx hb dL_act_141 (by decide) ?_
        refine va_calli (vx_runSW (As := [.ref (a), .int ((((x2 >>> ((4 : Int32) &&& 31)) &&& 65535) >>> ((2 : Int32) &&& 31)) - (((x2 >>> ((4 : Int32) &&& 31)) &&& 65535) >>> ((2 : Int32) &&& 31)) / 5 * 5), .int ((((x2 >>> ((4 : Int32) &&& 31)) &&& 65535) >>> ((4 : Int32) &&& 31)) - (((x2 >>> ((4 : Int32) &&& 31)) &&& 65535) >>> ((4 : Int32) &&& 31)) / 22 * 22)]) (rest := []) ⟨hx, hb, hml, hown, hts⟩ (d_L_setPrice l hl0 D Z k sz a σ ((((x2 >>> ((4 : Int32) &&& 31)) &&& 65535) >>> ((2 : Int32) &&& 31)) - (((x2 >>> ((4 : Int32) &&& 31)) &&& 65535) >>> ((2 : Int32) &&& 31)) / 5 * 5) ((((x2 >>> ((4 : Int32) &&& 31)) &&& 65535) >>> ((4 : Int32) &&& 31)) - (((x2 >>> ((4 : Int32) &&& 31)) &&& 65535) >>> ((4 : Int32) &&& 31)) / 22 * 22) (hJ.pm h0) (hJ.ex_setPrice _ _ h0 (by omega))) (vx_cwSW 3 hts gL_act_L_setPrice rfl rfl rfl (by decide +kernel) ⟨Nat.le_of_ble_eq_true rfl, Nat.le_of_ble_eq_true rfl⟩) (ft_preM hEL hz hS hP) rfl rfl hl.1 rfl (lv_room (Nat.le_of_ble_eq_true rfl)) dL_act_142 ⟨Nat.le_of_ble_eq_true rfl, Nat.le_of_ble_eq_true rfl⟩) hS (fun _ _ h => h) (fun _ h => h) (fun z u t H1 locs1 ht hvm hw hB hz1 hk1 hS1 => ?_)
        obtain ⟨rfl, rfl⟩ : z = (w_setPrice σ ((((x2 >>> ((4 : Int32) &&& 31)) &&& 65535) >>> ((2 : Int32) &&& 31)) - (((x2 >>> ((4 : Int32) &&& 31)) &&& 65535) >>> ((2 : Int32) &&& 31)) / 5 * 5) ((((x2 >>> ((4 : Int32) &&& 31)) &&& 65535) >>> ((4 : Int32) &&& 31)) - (((x2 >>> ((4 : Int32) &&& 31)) &&& 65535) >>> ((4 : Int32) &&& 31)) / 22 * 22)).1 ∧ u = (w_setPrice σ ((((x2 >>> ((4 : Int32) &&& 31)) &&& 65535) >>> ((2 : Int32) &&& 31)) - (((x2 >>> ((4 : Int32) &&& 31)) &&& 65535) >>> ((2 : Int32) &&& 31)) / 5 * 5) ((((x2 >>> ((4 : Int32) &&& 31)) &&& 65535) >>> ((4 : Int32) &&& 31)) - (((x2 >>> ((4 : Int32) &&& 31)) &&& 65535) >>> ((4 : Int32) &&& 31)) / 22 * 22)).2 := ⟨congrArg Prod.fst hw, congrArg Prod.snd hw⟩
        rw [ht] at hB
        have hP := hB
        have hS := hS1
        clear hS1
        generalize H1 = H at hP hS ⊢
        refine W.widen (k := 1) (n := 6) (by omega) (by omega) ?_
        have hJ_142_22 : J (jc0 + 0) (w_setPrice σ ((((x2 >>> ((4 : Int32) &&& 31)) &&& 65535) >>> ((2 : Int32) &&& 31)) - (((x2 >>> ((4 : Int32) &&& 31)) &&& 65535) >>> ((2 : Int32) &&& 31)) / 5 * 5) ((((x2 >>> ((4 : Int32) &&& 31)) &&& 65535) >>> ((4 : Int32) &&& 31)) - (((x2 >>> ((4 : Int32) &&& 31)) &&& 65535) >>> ((4 : Int32) &&& 31)) / 22 * 22)).2 := hJ.mono (hJ.k_setPrice _ _ h0 (by omega)) (by omega)
        have hq_142_23 : (w_setPrice σ ((((x2 >>> ((4 : Int32) &&& 31)) &&& 65535) >>> ((2 : Int32) &&& 31)) - (((x2 >>> ((4 : Int32) &&& 31)) &&& 65535) >>> ((2 : Int32) &&& 31)) / 5 * 5) ((((x2 >>> ((4 : Int32) &&& 31)) &&& 65535) >>> ((4 : Int32) &&& 31)) - (((x2 >>> ((4 : Int32) &&& 31)) &&& 65535) >>> ((4 : Int32) &&& 31)) / 22 * 22)).2.1 0 = ((w_setPrice σ ((((x2 >>> ((4 : Int32) &&& 31)) &&& 65535) >>> ((2 : Int32) &&& 31)) - (((x2 >>> ((4 : Int32) &&& 31)) &&& 65535) >>> ((2 : Int32) &&& 31)) / 5 * 5) ((((x2 >>> ((4 : Int32) &&& 31)) &&& 65535) >>> ((4 : Int32) &&& 31)) - (((x2 >>> ((4 : Int32) &&& 31)) &&& 65535) >>> ((4 : Int32) &&& 31)) / 22 * 22)).2.1 0) := rfl
        have hg_142_23 : G ((w_setPrice σ ((((x2 >>> ((4 : Int32) &&& 31)) &&& 65535) >>> ((2 : Int32) &&& 31)) - (((x2 >>> ((4 : Int32) &&& 31)) &&& 65535) >>> ((2 : Int32) &&& 31)) / 5 * 5) ((((x2 >>> ((4 : Int32) &&& 31)) &&& 65535) >>> ((4 : Int32) &&& 31)) - (((x2 >>> ((4 : Int32) &&& 31)) &&& 65535) >>> ((4 : Int32) &&& 31)) / 22 * 22)).2.1 0) := hJ.gr hJ_142_22 (by omega) hq_142_23
        refine W.widen (k := 26) (n := 3756) (by omega) (by omega) ?_
        exact W.iret (v := ((w_setPrice σ ((((x2 >>> ((4 : Int32) &&& 31)) &&& 65535) >>> ((2 : Int32) &&& 31)) - (((x2 >>> ((4 : Int32) &&& 31)) &&& 65535) >>> ((2 : Int32) &&& 31)) / 5 * 5) ((((x2 >>> ((4 : Int32) &&& 31)) &&& 65535) >>> ((4 : Int32) &&& 31)) - (((x2 >>> ((4 : Int32) &&& 31)) &&& 65535) >>> ((4 : Int32) &&& 31)) / 22 * 22)).1)) hx hb hr (fun t ht hW => ⟨⟨((w_setPrice σ ((((x2 >>> ((4 : Int32) &&& 31)) &&& 65535) >>> ((2 : Int32) &&& 31)) - (((x2 >>> ((4 : Int32) &&& 31)) &&& 65535) >>> ((2 : Int32) &&& 31)) / 5 * 5) ((((x2 >>> ((4 : Int32) &&& 31)) &&& 65535) >>> ((4 : Int32) &&& 31)) - (((x2 >>> ((4 : Int32) &&& 31)) &&& 65535) >>> ((4 : Int32) &&& 31)) / 22 * 22)).1), (w_setPrice σ ((((x2 >>> ((4 : Int32) &&& 31)) &&& 65535) >>> ((2 : Int32) &&& 31)) - (((x2 >>> ((4 : Int32) &&& 31)) &&& 65535) >>> ((2 : Int32) &&& 31)) / 5 * 5) ((((x2 >>> ((4 : Int32) &&& 31)) &&& 65535) >>> ((4 : Int32) &&& 31)) - (((x2 >>> ((4 : Int32) &&& 31)) &&& 65535) >>> ((4 : Int32) &&& 31)) / 22 * 22)).2, rfl, ⟨fun h9 => (hJ.f_setPrice _ _ h0 (by omega) h9).trans hq, hJ.mono hJ_142_22 (by omega)⟩, by show ft_LW D k Z sz a _ t.heap; rw [ht]; exact hP⟩, hS.F ht⟩) hS.2.2 dL_act_145
      · skip
        refine lv_aload_n hx hb dL_act_123 rfl (lv_at hl 3 rfl) ?_
        refine va_calli (vx_runSW (As := [.ref (a)]) (rest := []) ⟨hx, hb, hml, hown, hts⟩ (d_L_addTruck l hl0 D Z k sz a σ (hJ.pm h0) (hJ.ex_addTruck h0 (by omega))) (vx_cwSW 1 hts gL_act_L_addTruck rfl rfl rfl (by decide +kernel) ⟨Nat.le_of_ble_eq_true rfl, Nat.le_of_ble_eq_true rfl⟩) (ft_preM hEL hz hS hP) rfl rfl hl.1 rfl (lv_room (Nat.le_of_ble_eq_true rfl)) dL_act_124 ⟨Nat.le_of_ble_eq_true rfl, Nat.le_of_ble_eq_true rfl⟩) hS (fun _ _ h => h) (fun _ h => h) (fun z u t H1 locs1 ht hvm hw hB hz1 hk1 hS1 => ?_)
        obtain ⟨rfl, rfl⟩ : z = (w_addTruck σ).1 ∧ u = (w_addTruck σ).2 := ⟨congrArg Prod.fst hw, congrArg Prod.snd hw⟩
        rw [ht] at hB
        have hP := hB
        have hS := hS1
        clear hS1
        generalize H1 = H at hP hS ⊢
        refine W.widen (k := 1) (n := 6) (by omega) (by omega) ?_
        have hJ_124_23 : J (jc0 + 0) (w_addTruck σ).2 := hJ.mono (hJ.k_addTruck h0 (by omega)) (by omega)
        have hq_124_24 : (w_addTruck σ).2.1 0 = ((w_addTruck σ).2.1 0) := rfl
        have hg_124_24 : G ((w_addTruck σ).2.1 0) := hJ.gr hJ_124_23 (by omega) hq_124_24
        refine lv_goto (tgt := 145) hx hb dL_act_127 (by decide) ?_
        refine W.widen (k := 26) (n := 3756) (by omega) (by omega) ?_
        exact W.iret (v := ((w_addTruck σ).1)) hx hb hr (fun t ht hW => ⟨⟨((w_addTruck σ).1), (w_addTruck σ).2, rfl, ⟨fun h9 => (hJ.f_addTruck h0 (by omega) h9).trans hq, hJ.mono hJ_124_23 (by omega)⟩, by show ft_LW D k Z sz a _ t.heap; rw [ht]; exact hP⟩, hS.F ht⟩) hS.2.2 dL_act_145
    by_cases k_41_1 : (x2 &&& 15) = 1
    · skip
      refine lv_tableIn (tgt := 146) (off := 105) hx hb dL_act_41 (by rw [k_41_1]; decide) (by rw [k_41_1]; decide) (by rw [k_41_1]; rfl) (by decide) ?_
      refine lv_aload_n hx hb dL_act_146 rfl (lv_at hl 3 rfl) ?_
      refine lv_iload_n hx hb dL_act_147 rfl (lv_at hl 1 rfl) ?_
      refine lv_iload_n hx hb dL_act_148 rfl (lv_at hl 2 rfl) ?_
      refine lv_iconst (v := 2) hx hb dL_act_149 (by decide) ?_
      refine lv_ishr hx hb dL_act_150 ?_
      refine lv_iconst (v := 4) hx hb dL_act_151 (by decide) ?_
      refine lv_irem hx hb dL_act_152 (by decide) ?_
      refine lv_iload_n hx hb dL_act_153 rfl (lv_at hl 2 rfl) ?_
      refine lv_iconst (v := 4) hx hb dL_act_154 (by decide) ?_
      refine lv_ishr hx hb dL_act_155 ?_
      refine lv_bipush (v := 30) hx hb dL_act_156 (by decide) ?_
      refine lv_irem hx hb dL_act_158 (by decide) ?_
      refine va_calli (vx_runSW (As := [.ref (a), .int (((x2 >>> ((4 : Int32) &&& 31)) &&& 65535) - ((x2 >>> ((4 : Int32) &&& 31)) &&& 65535) / 4 * 4), .int ((((x2 >>> ((4 : Int32) &&& 31)) &&& 65535) >>> ((2 : Int32) &&& 31)) - (((x2 >>> ((4 : Int32) &&& 31)) &&& 65535) >>> ((2 : Int32) &&& 31)) / 4 * 4), .int ((((x2 >>> ((4 : Int32) &&& 31)) &&& 65535) >>> ((4 : Int32) &&& 31)) - (((x2 >>> ((4 : Int32) &&& 31)) &&& 65535) >>> ((4 : Int32) &&& 31)) / 30 * 30)]) (rest := []) ⟨hx, hb, hml, hown, hts⟩ (d_L_addStock l hl0 D Z k sz a σ (((x2 >>> ((4 : Int32) &&& 31)) &&& 65535) - ((x2 >>> ((4 : Int32) &&& 31)) &&& 65535) / 4 * 4) ((((x2 >>> ((4 : Int32) &&& 31)) &&& 65535) >>> ((2 : Int32) &&& 31)) - (((x2 >>> ((4 : Int32) &&& 31)) &&& 65535) >>> ((2 : Int32) &&& 31)) / 4 * 4) ((((x2 >>> ((4 : Int32) &&& 31)) &&& 65535) >>> ((4 : Int32) &&& 31)) - (((x2 >>> ((4 : Int32) &&& 31)) &&& 65535) >>> ((4 : Int32) &&& 31)) / 30 * 30) (hJ.pm h0) (hJ.ex_addStock _ _ _ h0 (by omega))) (vx_cwSW 4 hts gL_act_L_addStock rfl rfl rfl (by decide +kernel) ⟨Nat.le_of_ble_eq_true rfl, Nat.le_of_ble_eq_true rfl⟩) (ft_preM hEL hz hS hP) rfl rfl hl.1 rfl (lv_room (Nat.le_of_ble_eq_true rfl)) dL_act_159 ⟨Nat.le_of_ble_eq_true rfl, Nat.le_of_ble_eq_true rfl⟩) hS (fun _ _ h => h) (fun _ h => h) (fun z u t H1 locs1 ht hvm hw hB hz1 hk1 hS1 => ?_)
      obtain ⟨rfl, rfl⟩ : z = (w_addStock σ (((x2 >>> ((4 : Int32) &&& 31)) &&& 65535) - ((x2 >>> ((4 : Int32) &&& 31)) &&& 65535) / 4 * 4) ((((x2 >>> ((4 : Int32) &&& 31)) &&& 65535) >>> ((2 : Int32) &&& 31)) - (((x2 >>> ((4 : Int32) &&& 31)) &&& 65535) >>> ((2 : Int32) &&& 31)) / 4 * 4) ((((x2 >>> ((4 : Int32) &&& 31)) &&& 65535) >>> ((4 : Int32) &&& 31)) - (((x2 >>> ((4 : Int32) &&& 31)) &&& 65535) >>> ((4 : Int32) &&& 31)) / 30 * 30)).1 ∧ u = (w_addStock σ (((x2 >>> ((4 : Int32) &&& 31)) &&& 65535) - ((x2 >>> ((4 : Int32) &&& 31)) &&& 65535) / 4 * 4) ((((x2 >>> ((4 : Int32) &&& 31)) &&& 65535) >>> ((2 : Int32) &&& 31)) - (((x2 >>> ((4 : Int32) &&& 31)) &&& 65535) >>> ((2 : Int32) &&& 31)) / 4 * 4) ((((x2 >>> ((4 : Int32) &&& 31)) &&& 65535) >>> ((4 : Int32) &&& 31)) - (((x2 >>> ((4 : Int32) &&& 31)) &&& 65535) >>> ((4 : Int32) &&& 31)) / 30 * 30)).2 := ⟨congrArg Prod.fst hw, congrArg Prod.snd hw⟩
      rw [ht] at hB
      have hP := hB
      have hS := hS1
      clear hS1
      generalize H1 = H at hP hS ⊢
      refine W.widen (k := 1) (n := 6) (by omega) (by omega) ?_
      have hJ_159_24 : J (jc0 + 0) (w_addStock σ (((x2 >>> ((4 : Int32) &&& 31)) &&& 65535) - ((x2 >>> ((4 : Int32) &&& 31)) &&& 65535) / 4 * 4) ((((x2 >>> ((4 : Int32) &&& 31)) &&& 65535) >>> ((2 : Int32) &&& 31)) - (((x2 >>> ((4 : Int32) &&& 31)) &&& 65535) >>> ((2 : Int32) &&& 31)) / 4 * 4) ((((x2 >>> ((4 : Int32) &&& 31)) &&& 65535) >>> ((4 : Int32) &&& 31)) - (((x2 >>> ((4 : Int32) &&& 31)) &&& 65535) >>> ((4 : Int32) &&& 31)) / 30 * 30)).2 := hJ.mono (hJ.k_addStock _ _ _ h0 (by omega)) (by omega)
      have hq_159_25 : (w_addStock σ (((x2 >>> ((4 : Int32) &&& 31)) &&& 65535) - ((x2 >>> ((4 : Int32) &&& 31)) &&& 65535) / 4 * 4) ((((x2 >>> ((4 : Int32) &&& 31)) &&& 65535) >>> ((2 : Int32) &&& 31)) - (((x2 >>> ((4 : Int32) &&& 31)) &&& 65535) >>> ((2 : Int32) &&& 31)) / 4 * 4) ((((x2 >>> ((4 : Int32) &&& 31)) &&& 65535) >>> ((4 : Int32) &&& 31)) - (((x2 >>> ((4 : Int32) &&& 31)) &&& 65535) >>> ((4 : Int32) &&& 31)) / 30 * 30)).2.1 0 = ((w_addStock σ (((x2 >>> ((4 : Int32) &&& 31)) &&& 65535) - ((x2 >>> ((4 : Int32) &&& 31)) &&& 65535) / 4 * 4) ((((x2 >>> ((4 : Int32) &&& 31)) &&& 65535) >>> ((2 : Int32) &&& 31)) - (((x2 >>> ((4 : Int32) &&& 31)) &&& 65535) >>> ((2 : Int32) &&& 31)) / 4 * 4) ((((x2 >>> ((4 : Int32) &&& 31)) &&& 65535) >>> ((4 : Int32) &&& 31)) - (((x2 >>> ((4 : Int32) &&& 31)) &&& 65535) >>> ((4 : Int32) &&& 31)) / 30 * 30)).2.1 0) := rfl
      have hg_159_25 : G ((w_addStock σ (((x2 >>> ((4 : Int32) &&& 31)) &&& 65535) - ((x2 >>> ((4 : Int32) &&& 31)) &&& 65535) / 4 * 4) ((((x2 >>> ((4 : Int32) &&& 31)) &&& 65535) >>> ((2 : Int32) &&& 31)) - (((x2 >>> ((4 : Int32) &&& 31)) &&& 65535) >>> ((2 : Int32) &&& 31)) / 4 * 4) ((((x2 >>> ((4 : Int32) &&& 31)) &&& 65535) >>> ((4 : Int32) &&& 31)) - (((x2 >>> ((4 : Int32) &&& 31)) &&& 65535) >>> ((4 : Int32) &&& 31)) / 30 * 30)).2.1 0) := hJ.gr hJ_159_24 (by omega) hq_159_25
      refine W.widen (k := 26) (n := 3756) (by omega) (by omega) ?_
      exact W.iret (v := ((w_addStock σ (((x2 >>> ((4 : Int32) &&& 31)) &&& 65535) - ((x2 >>> ((4 : Int32) &&& 31)) &&& 65535) / 4 * 4) ((((x2 >>> ((4 : Int32) &&& 31)) &&& 65535) >>> ((2 : Int32) &&& 31)) - (((x2 >>> ((4 : Int32) &&& 31)) &&& 65535) >>> ((2 : Int32) &&& 31)) / 4 * 4) ((((x2 >>> ((4 : Int32) &&& 31)) &&& 65535) >>> ((4 : Int32) &&& 31)) - (((x2 >>> ((4 : Int32) &&& 31)) &&& 65535) >>> ((4 : Int32) &&& 31)) / 30 * 30)).1)) hx hb hr (fun t ht hW => ⟨⟨((w_addStock σ (((x2 >>> ((4 : Int32) &&& 31)) &&& 65535) - ((x2 >>> ((4 : Int32) &&& 31)) &&& 65535) / 4 * 4) ((((x2 >>> ((4 : Int32) &&& 31)) &&& 65535) >>> ((2 : Int32) &&& 31)) - (((x2 >>> ((4 : Int32) &&& 31)) &&& 65535) >>> ((2 : Int32) &&& 31)) / 4 * 4) ((((x2 >>> ((4 : Int32) &&& 31)) &&& 65535) >>> ((4 : Int32) &&& 31)) - (((x2 >>> ((4 : Int32) &&& 31)) &&& 65535) >>> ((4 : Int32) &&& 31)) / 30 * 30)).1), (w_addStock σ (((x2 >>> ((4 : Int32) &&& 31)) &&& 65535) - ((x2 >>> ((4 : Int32) &&& 31)) &&& 65535) / 4 * 4) ((((x2 >>> ((4 : Int32) &&& 31)) &&& 65535) >>> ((2 : Int32) &&& 31)) - (((x2 >>> ((4 : Int32) &&& 31)) &&& 65535) >>> ((2 : Int32) &&& 31)) / 4 * 4) ((((x2 >>> ((4 : Int32) &&& 31)) &&& 65535) >>> ((4 : Int32) &&& 31)) - (((x2 >>> ((4 : Int32) &&& 31)) &&& 65535) >>> ((4 : Int32) &&& 31)) / 30 * 30)).2, rfl, ⟨fun h9 => (hJ.f_addStock _ _ _ h0 (by omega) h9).trans hq, hJ.mono hJ_159_24 (by omega)⟩, by show ft_LW D k Z sz a _ t.heap; rw [ht]; exact hP⟩, hS.F ht⟩) hS.2.2 dL_act_162
    by_cases k_41_2 : (x2 &&& 15) = 2
    · skip
      refine lv_tableIn (tgt := 146) (off := 105) hx hb dL_act_41 (by rw [k_41_2]; decide) (by rw [k_41_2]; decide) (by rw [k_41_2]; rfl) (by decide) ?_
      refine lv_aload_n hx hb dL_act_146 rfl (lv_at hl 3 rfl) ?_
      refine lv_iload_n hx hb dL_act_147 rfl (lv_at hl 1 rfl) ?_
      refine lv_iload_n hx hb dL_act_148 rfl (lv_at hl 2 rfl) ?_
      refine lv_iconst (v := 2) hx hb dL_act_149 (by decide) ?_
      refine lv_ishr hx hb dL_act_150 ?_
      refine lv_iconst (v := 4) hx hb dL_act_151 (by decide) ?_
      refine lv_irem hx hb dL_act_152 (by decide) ?_
      refine lv_iload_n hx hb dL_act_153 rfl (lv_at hl 2 rfl) ?_
      refine lv_iconst (v := 4) hx hb dL_act_154 (by decide) ?_
      refine lv_ishr hx hb dL_act_155 ?_
      refine lv_bipush (v := 30) hx hb dL_act_156 (by decide) ?_
      refine lv_irem hx hb dL_act_158 (by decide) ?_
      refine va_calli (vx_runSW (As := [.ref (a), .int (((x2 >>> ((4 : Int32) &&& 31)) &&& 65535) - ((x2 >>> ((4 : Int32) &&& 31)) &&& 65535) / 4 * 4), .int ((((x2 >>> ((4 : Int32) &&& 31)) &&& 65535) >>> ((2 : Int32) &&& 31)) - (((x2 >>> ((4 : Int32) &&& 31)) &&& 65535) >>> ((2 : Int32) &&& 31)) / 4 * 4), .int ((((x2 >>> ((4 : Int32) &&& 31)) &&& 65535) >>> ((4 : Int32) &&& 31)) - (((x2 >>> ((4 : Int32) &&& 31)) &&& 65535) >>> ((4 : Int32) &&& 31)) / 30 * 30)]) (rest := []) ⟨hx, hb, hml, hown, hts⟩ (d_L_addStock l hl0 D Z k sz a σ (((x2 >>> ((4 : Int32) &&& 31)) &&& 65535) - ((x2 >>> ((4 : Int32) &&& 31)) &&& 65535) / 4 * 4) ((((x2 >>> ((4 : Int32) &&& 31)) &&& 65535) >>> ((2 : Int32) &&& 31)) - (((x2 >>> ((4 : Int32) &&& 31)) &&& 65535) >>> ((2 : Int32) &&& 31)) / 4 * 4) ((((x2 >>> ((4 : Int32) &&& 31)) &&& 65535) >>> ((4 : Int32) &&& 31)) - (((x2 >>> ((4 : Int32) &&& 31)) &&& 65535) >>> ((4 : Int32) &&& 31)) / 30 * 30) (hJ.pm h0) (hJ.ex_addStock _ _ _ h0 (by omega))) (vx_cwSW 4 hts gL_act_L_addStock rfl rfl rfl (by decide +kernel) ⟨Nat.le_of_ble_eq_true rfl, Nat.le_of_ble_eq_true rfl⟩) (ft_preM hEL hz hS hP) rfl rfl hl.1 rfl (lv_room (Nat.le_of_ble_eq_true rfl)) dL_act_159 ⟨Nat.le_of_ble_eq_true rfl, Nat.le_of_ble_eq_true rfl⟩) hS (fun _ _ h => h) (fun _ h => h) (fun z u t H1 locs1 ht hvm hw hB hz1 hk1 hS1 => ?_)
      obtain ⟨rfl, rfl⟩ : z = (w_addStock σ (((x2 >>> ((4 : Int32) &&& 31)) &&& 65535) - ((x2 >>> ((4 : Int32) &&& 31)) &&& 65535) / 4 * 4) ((((x2 >>> ((4 : Int32) &&& 31)) &&& 65535) >>> ((2 : Int32) &&& 31)) - (((x2 >>> ((4 : Int32) &&& 31)) &&& 65535) >>> ((2 : Int32) &&& 31)) / 4 * 4) ((((x2 >>> ((4 : Int32) &&& 31)) &&& 65535) >>> ((4 : Int32) &&& 31)) - (((x2 >>> ((4 : Int32) &&& 31)) &&& 65535) >>> ((4 : Int32) &&& 31)) / 30 * 30)).1 ∧ u = (w_addStock σ (((x2 >>> ((4 : Int32) &&& 31)) &&& 65535) - ((x2 >>> ((4 : Int32) &&& 31)) &&& 65535) / 4 * 4) ((((x2 >>> ((4 : Int32) &&& 31)) &&& 65535) >>> ((2 : Int32) &&& 31)) - (((x2 >>> ((4 : Int32) &&& 31)) &&& 65535) >>> ((2 : Int32) &&& 31)) / 4 * 4) ((((x2 >>> ((4 : Int32) &&& 31)) &&& 65535) >>> ((4 : Int32) &&& 31)) - (((x2 >>> ((4 : Int32) &&& 31)) &&& 65535) >>> ((4 : Int32) &&& 31)) / 30 * 30)).2 := ⟨congrArg Prod.fst hw, congrArg Prod.snd hw⟩
      rw [ht] at hB
      have hP := hB
      have hS := hS1
      clear hS1
      generalize H1 = H at hP hS ⊢
      refine W.widen (k := 1) (n := 6) (by omega) (by omega) ?_
      have hJ_159_25 : J (jc0 + 0) (w_addStock σ (((x2 >>> ((4 : Int32) &&& 31)) &&& 65535) - ((x2 >>> ((4 : Int32) &&& 31)) &&& 65535) / 4 * 4) ((((x2 >>> ((4 : Int32) &&& 31)) &&& 65535) >>> ((2 : Int32) &&& 31)) - (((x2 >>> ((4 : Int32) &&& 31)) &&& 65535) >>> ((2 : Int32) &&& 31)) / 4 * 4) ((((x2 >>> ((4 : Int32) &&& 31)) &&& 65535) >>> ((4 : Int32) &&& 31)) - (((x2 >>> ((4 : Int32) &&& 31)) &&& 65535) >>> ((4 : Int32) &&& 31)) / 30 * 30)).2 := hJ.mono (hJ.k_addStock _ _ _ h0 (by omega)) (by omega)
      have hq_159_26 : (w_addStock σ (((x2 >>> ((4 : Int32) &&& 31)) &&& 65535) - ((x2 >>> ((4 : Int32) &&& 31)) &&& 65535) / 4 * 4) ((((x2 >>> ((4 : Int32) &&& 31)) &&& 65535) >>> ((2 : Int32) &&& 31)) - (((x2 >>> ((4 : Int32) &&& 31)) &&& 65535) >>> ((2 : Int32) &&& 31)) / 4 * 4) ((((x2 >>> ((4 : Int32) &&& 31)) &&& 65535) >>> ((4 : Int32) &&& 31)) - (((x2 >>> ((4 : Int32) &&& 31)) &&& 65535) >>> ((4 : Int32) &&& 31)) / 30 * 30)).2.1 0 = ((w_addStock σ (((x2 >>> ((4 : Int32) &&& 31)) &&& 65535) - ((x2 >>> ((4 : Int32) &&& 31)) &&& 65535) / 4 * 4) ((((x2 >>> ((4 : Int32) &&& 31)) &&& 65535) >>> ((2 : Int32) &&& 31)) - (((x2 >>> ((4 : Int32) &&& 31)) &&& 65535) >>> ((2 : Int32) &&& 31)) / 4 * 4) ((((x2 >>> ((4 : Int32) &&& 31)) &&& 65535) >>> ((4 : Int32) &&& 31)) - (((x2 >>> ((4 : Int32) &&& 31)) &&& 65535) >>> ((4 : Int32) &&& 31)) / 30 * 30)).2.1 0) := rfl
      have hg_159_26 : G ((w_addStock σ (((x2 >>> ((4 : Int32) &&& 31)) &&& 65535) - ((x2 >>> ((4 : Int32) &&& 31)) &&& 65535) / 4 * 4) ((((x2 >>> ((4 : Int32) &&& 31)) &&& 65535) >>> ((2 : Int32) &&& 31)) - (((x2 >>> ((4 : Int32) &&& 31)) &&& 65535) >>> ((2 : Int32) &&& 31)) / 4 * 4) ((((x2 >>> ((4 : Int32) &&& 31)) &&& 65535) >>> ((4 : Int32) &&& 31)) - (((x2 >>> ((4 : Int32) &&& 31)) &&& 65535) >>> ((4 : Int32) &&& 31)) / 30 * 30)).2.1 0) := hJ.gr hJ_159_25 (by omega) hq_159_26
      refine W.widen (k := 26) (n := 3756) (by omega) (by omega) ?_
      exact W.iret (v := ((w_addStock σ (((x2 >>> ((4 : Int32) &&& 31)) &&& 65535) - ((x2 >>> ((4 : Int32) &&& 31)) &&& 65535) / 4 * 4) ((((x2 >>> ((4 : Int32) &&& 31)) &&& 65535) >>> ((2 : Int32) &&& 31)) - (((x2 >>> ((4 : Int32) &&& 31)) &&& 65535) >>> ((2 : Int32) &&& 31)) / 4 * 4) ((((x2 >>> ((4 : Int32) &&& 31)) &&& 65535) >>> ((4 : Int32) &&& 31)) - (((x2 >>> ((4 : Int32) &&& 31)) &&& 65535) >>> ((4 : Int32) &&& 31)) / 30 * 30)).1)) hx hb hr (fun t ht hW => ⟨⟨((w_addStock σ (((x2 >>> ((4 : Int32) &&& 31)) &&& 65535) - ((x2 >>> ((4 : Int32) &&& 31)) &&& 65535) / 4 * 4) ((((x2 >>> ((4 : Int32) &&& 31)) &&& 65535) >>> ((2 : Int32) &&& 31)) - (((x2 >>> ((4 : Int32) &&& 31)) &&& 65535) >>> ((2 : Int32) &&& 31)) / 4 * 4) ((((x2 >>> ((4 : Int32) &&& 31)) &&& 65535) >>> ((4 : Int32) &&& 31)) - (((x2 >>> ((4 : Int32) &&& 31)) &&& 65535) >>> ((4 : Int32) &&& 31)) / 30 * 30)).1), (w_addStock σ (((x2 >>> ((4 : Int32) &&& 31)) &&& 65535) - ((x2 >>> ((4 : Int32) &&& 31)) &&& 65535) / 4 * 4) ((((x2 >>> ((4 : Int32) &&& 31)) &&& 65535) >>> ((2 : Int32) &&& 31)) - (((x2 >>> ((4 : Int32) &&& 31)) &&& 65535) >>> ((2 : Int32) &&& 31)) / 4 * 4) ((((x2 >>> ((4 : Int32) &&& 31)) &&& 65535) >>> ((4 : Int32) &&& 31)) - (((x2 >>> ((4 : Int32) &&& 31)) &&& 65535) >>> ((4 : Int32) &&& 31)) / 30 * 30)).2, rfl, ⟨fun h9 => (hJ.f_addStock _ _ _ h0 (by omega) h9).trans hq, hJ.mono hJ_159_25 (by omega)⟩, by show ft_LW D k Z sz a _ t.heap; rw [ht]; exact hP⟩, hS.F ht⟩) hS.2.2 dL_act_162
    by_cases k_41_3 : (x2 &&& 15) = 3
    · skip
      refine lv_tableIn (tgt := 146) (off := 105) hx hb dL_act_41 (by rw [k_41_3]; decide) (by rw [k_41_3]; decide) (by rw [k_41_3]; rfl) (by decide) ?_
      refine lv_aload_n hx hb dL_act_146 rfl (lv_at hl 3 rfl) ?_
      refine lv_iload_n hx hb dL_act_147 rfl (lv_at hl 1 rfl) ?_
      refine lv_iload_n hx hb dL_act_148 rfl (lv_at hl 2 rfl) ?_
      refine lv_iconst (v := 2) hx hb dL_act_149 (by decide) ?_
      refine lv_ishr hx hb dL_act_150 ?_
      refine lv_iconst (v := 4) hx hb dL_act_151 (by decide) ?_
      refine lv_irem hx hb dL_act_152 (by decide) ?_
      refine lv_iload_n hx hb dL_act_153 rfl (lv_at hl 2 rfl) ?_
      refine lv_iconst (v := 4) hx hb dL_act_154 (by decide) ?_
      refine lv_ishr hx hb dL_act_155 ?_
      refine lv_bipush (v := 30) hx hb dL_act_156 (by decide) ?_
      refine lv_irem hx hb dL_act_158 (by decide) ?_
      refine va_calli (vx_runSW (As := [.ref (a), .int (((x2 >>> ((4 : Int32) &&& 31)) &&& 65535) - ((x2 >>> ((4 : Int32) &&& 31)) &&& 65535) / 4 * 4), .int ((((x2 >>> ((4 : Int32) &&& 31)) &&& 65535) >>> ((2 : Int32) &&& 31)) - (((x2 >>> ((4 : Int32) &&& 31)) &&& 65535) >>> ((2 : Int32) &&& 31)) / 4 * 4), .int ((((x2 >>> ((4 : Int32) &&& 31)) &&& 65535) >>> ((4 : Int32) &&& 31)) - (((x2 >>> ((4 : Int32) &&& 31)) &&& 65535) >>> ((4 : Int32) &&& 31)) / 30 * 30)]) (rest := []) ⟨hx, hb, hml, hown, hts⟩ (d_L_addStock l hl0 D Z k sz a σ (((x2 >>> ((4 : Int32) &&& 31)) &&& 65535) - ((x2 >>> ((4 : Int32) &&& 31)) &&& 65535) / 4 * 4) ((((x2 >>> ((4 : Int32) &&& 31)) &&& 65535) >>> ((2 : Int32) &&& 31)) - (((x2 >>> ((4 : Int32) &&& 31)) &&& 65535) >>> ((2 : Int32) &&& 31)) / 4 * 4) ((((x2 >>> ((4 : Int32) &&& 31)) &&& 65535) >>> ((4 : Int32) &&& 31)) - (((x2 >>> ((4 : Int32) &&& 31)) &&& 65535) >>> ((4 : Int32) &&& 31)) / 30 * 30) (hJ.pm h0) (hJ.ex_addStock _ _ _ h0 (by omega))) (vx_cwSW 4 hts gL_act_L_addStock rfl rfl rfl (by decide +kernel) ⟨Nat.le_of_ble_eq_true rfl, Nat.le_of_ble_eq_true rfl⟩) (ft_preM hEL hz hS hP) rfl rfl hl.1 rfl (lv_room (Nat.le_of_ble_eq_true rfl)) dL_act_159 ⟨Nat.le_of_ble_eq_true rfl, Nat.le_of_ble_eq_true rfl⟩) hS (fun _ _ h => h) (fun _ h => h) (fun z u t H1 locs1 ht hvm hw hB hz1 hk1 hS1 => ?_)
      obtain ⟨rfl, rfl⟩ : z = (w_addStock σ (((x2 >>> ((4 : Int32) &&& 31)) &&& 65535) - ((x2 >>> ((4 : Int32) &&& 31)) &&& 65535) / 4 * 4) ((((x2 >>> ((4 : Int32) &&& 31)) &&& 65535) >>> ((2 : Int32) &&& 31)) - (((x2 >>> ((4 : Int32) &&& 31)) &&& 65535) >>> ((2 : Int32) &&& 31)) / 4 * 4) ((((x2 >>> ((4 : Int32) &&& 31)) &&& 65535) >>> ((4 : Int32) &&& 31)) - (((x2 >>> ((4 : Int32) &&& 31)) &&& 65535) >>> ((4 : Int32) &&& 31)) / 30 * 30)).1 ∧ u = (w_addStock σ (((x2 >>> ((4 : Int32) &&& 31)) &&& 65535) - ((x2 >>> ((4 : Int32) &&& 31)) &&& 65535) / 4 * 4) ((((x2 >>> ((4 : Int32) &&& 31)) &&& 65535) >>> ((2 : Int32) &&& 31)) - (((x2 >>> ((4 : Int32) &&& 31)) &&& 65535) >>> ((2 : Int32) &&& 31)) / 4 * 4) ((((x2 >>> ((4 : Int32) &&& 31)) &&& 65535) >>> ((4 : Int32) &&& 31)) - (((x2 >>> ((4 : Int32) &&& 31)) &&& 65535) >>> ((4 : Int32) &&& 31)) / 30 * 30)).2 := ⟨congrArg Prod.fst hw, congrArg Prod.snd hw⟩
      rw [ht] at hB
      have hP := hB
      have hS := hS1
      clear hS1
      generalize H1 = H at hP hS ⊢
      refine W.widen (k := 1) (n := 6) (by omega) (by omega) ?_
      have hJ_159_26 : J (jc0 + 0) (w_addStock σ (((x2 >>> ((4 : Int32) &&& 31)) &&& 65535) - ((x2 >>> ((4 : Int32) &&& 31)) &&& 65535) / 4 * 4) ((((x2 >>> ((4 : Int32) &&& 31)) &&& 65535) >>> ((2 : Int32) &&& 31)) - (((x2 >>> ((4 : Int32) &&& 31)) &&& 65535) >>> ((2 : Int32) &&& 31)) / 4 * 4) ((((x2 >>> ((4 : Int32) &&& 31)) &&& 65535) >>> ((4 : Int32) &&& 31)) - (((x2 >>> ((4 : Int32) &&& 31)) &&& 65535) >>> ((4 : Int32) &&& 31)) / 30 * 30)).2 := hJ.mono (hJ.k_addStock _ _ _ h0 (by omega)) (by omega)
      have hq_159_27 : (w_addStock σ (((x2 >>> ((4 : Int32) &&& 31)) &&& 65535) - ((x2 >>> ((4 : Int32) &&& 31)) &&& 65535) / 4 * 4) ((((x2 >>> ((4 : Int32) &&& 31)) &&& 65535) >>> ((2 : Int32) &&& 31)) - (((x2 >>> ((4 : Int32) &&& 31)) &&& 65535) >>> ((2 : Int32) &&& 31)) / 4 * 4) ((((x2 >>> ((4 : Int32) &&& 31)) &&& 65535) >>> ((4 : Int32) &&& 31)) - (((x2 >>> ((4 : Int32) &&& 31)) &&& 65535) >>> ((4 : Int32) &&& 31)) / 30 * 30)).2.1 0 = ((w_addStock σ (((x2 >>> ((4 : Int32) &&& 31)) &&& 65535) - ((x2 >>> ((4 : Int32) &&& 31)) &&& 65535) / 4 * 4) ((((x2 >>> ((4 : Int32) &&& 31)) &&& 65535) >>> ((2 : Int32) &&& 31)) - (((x2 >>> ((4 : Int32) &&& 31)) &&& 65535) >>> ((2 : Int32) &&& 31)) / 4 * 4) ((((x2 >>> ((4 : Int32) &&& 31)) &&& 65535) >>> ((4 : Int32) &&& 31)) - (((x2 >>> ((4 : Int32) &&& 31)) &&& 65535) >>> ((4 : Int32) &&& 31)) / 30 * 30)).2.1 0) := rfl
      have hg_159_27 : G ((w_addStock σ (((x2 >>> ((4 : Int32) &&& 31)) &&& 65535) - ((x2 >>> ((4 : Int32) &&& 31)) &&& 65535) / 4 * 4) ((((x2 >>> ((4 : Int32) &&& 31)) &&& 65535) >>> ((2 : Int32) &&& 31)) - (((x2 >>> ((4 : Int32) &&& 31)) &&& 65535) >>> ((2 : Int32) &&& 31)) / 4 * 4) ((((x2 >>> ((4 : Int32) &&& 31)) &&& 65535) >>> ((4 : Int32) &&& 31)) - (((x2 >>> ((4 : Int32) &&& 31)) &&& 65535) >>> ((4 : Int32) &&& 31)) / 30 * 30)).2.1 0) := hJ.gr hJ_159_26 (by omega) hq_159_27
      refine W.widen (k := 26) (n := 3756) (by omega) (by omega) ?_
      exact W.iret (v := ((w_addStock σ (((x2 >>> ((4 : Int32) &&& 31)) &&& 65535) - ((x2 >>> ((4 : Int32) &&& 31)) &&& 65535) / 4 * 4) ((((x2 >>> ((4 : Int32) &&& 31)) &&& 65535) >>> ((2 : Int32) &&& 31)) - (((x2 >>> ((4 : Int32) &&& 31)) &&& 65535) >>> ((2 : Int32) &&& 31)) / 4 * 4) ((((x2 >>> ((4 : Int32) &&& 31)) &&& 65535) >>> ((4 : Int32) &&& 31)) - (((x2 >>> ((4 : Int32) &&& 31)) &&& 65535) >>> ((4 : Int32) &&& 31)) / 30 * 30)).1)) hx hb hr (fun t ht hW => ⟨⟨((w_addStock σ (((x2 >>> ((4 : Int32) &&& 31)) &&& 65535) - ((x2 >>> ((4 : Int32) &&& 31)) &&& 65535) / 4 * 4) ((((x2 >>> ((4 : Int32) &&& 31)) &&& 65535) >>> ((2 : Int32) &&& 31)) - (((x2 >>> ((4 : Int32) &&& 31)) &&& 65535) >>> ((2 : Int32) &&& 31)) / 4 * 4) ((((x2 >>> ((4 : Int32) &&& 31)) &&& 65535) >>> ((4 : Int32) &&& 31)) - (((x2 >>> ((4 : Int32) &&& 31)) &&& 65535) >>> ((4 : Int32) &&& 31)) / 30 * 30)).1), (w_addStock σ (((x2 >>> ((4 : Int32) &&& 31)) &&& 65535) - ((x2 >>> ((4 : Int32) &&& 31)) &&& 65535) / 4 * 4) ((((x2 >>> ((4 : Int32) &&& 31)) &&& 65535) >>> ((2 : Int32) &&& 31)) - (((x2 >>> ((4 : Int32) &&& 31)) &&& 65535) >>> ((2 : Int32) &&& 31)) / 4 * 4) ((((x2 >>> ((4 : Int32) &&& 31)) &&& 65535) >>> ((4 : Int32) &&& 31)) - (((x2 >>> ((4 : Int32) &&& 31)) &&& 65535) >>> ((4 : Int32) &&& 31)) / 30 * 30)).2, rfl, ⟨fun h9 => (hJ.f_addStock _ _ _ h0 (by omega) h9).trans hq, hJ.mono hJ_159_26 (by omega)⟩, by show ft_LW D k Z sz a _ t.heap; rw [ht]; exact hP⟩, hS.F ht⟩) hS.2.2 dL_act_162
    by_cases k_41_4 : (x2 &&& 15) = 4
    · skip
      refine lv_tableIn (tgt := 163) (off := 122) hx hb dL_act_41 (by rw [k_41_4]; decide) (by rw [k_41_4]; decide) (by rw [k_41_4]; rfl) (by decide) ?_
      refine lv_aload_n hx hb dL_act_163 rfl (lv_at hl 3 rfl) ?_
      refine lv_iload_n hx hb dL_act_164 rfl (lv_at hl 1 rfl) ?_
      refine lv_iload hx hb dL_act_165 (lv_at hl 0 rfl) ?_
      refine va_calli (vx_runSW (As := [.ref (a), .int (((x2 >>> ((4 : Int32) &&& 31)) &&& 65535) - ((x2 >>> ((4 : Int32) &&& 31)) &&& 65535) / 4 * 4), .int ((l_day (ft_nr r)) - (l_day (ft_nr r)) / 7 * 7)]) (rest := []) ⟨hx, hb, hml, hown, hts⟩ (d_L_grantPermit l hl0 D Z k sz a σ (((x2 >>> ((4 : Int32) &&& 31)) &&& 65535) - ((x2 >>> ((4 : Int32) &&& 31)) &&& 65535) / 4 * 4) ((l_day (ft_nr r)) - (l_day (ft_nr r)) / 7 * 7) (hJ.pm h0) (hJ.ex_grantPermit _ _ h0 (by omega))) (vx_cwSW 3 hts gL_act_L_grantPermit rfl rfl rfl (by decide +kernel) ⟨Nat.le_of_ble_eq_true rfl, Nat.le_of_ble_eq_true rfl⟩) (ft_preM hEL hz hS hP) rfl rfl hl.1 rfl (lv_room (Nat.le_of_ble_eq_true rfl)) dL_act_167 ⟨Nat.le_of_ble_eq_true rfl, Nat.le_of_ble_eq_true rfl⟩) hS (fun _ _ h => h) (fun _ h => h) (fun z u t H1 locs1 ht hvm hw hB hz1 hk1 hS1 => ?_)
      obtain ⟨rfl, rfl⟩ : z = (w_grantPermit σ (((x2 >>> ((4 : Int32) &&& 31)) &&& 65535) - ((x2 >>> ((4 : Int32) &&& 31)) &&& 65535) / 4 * 4) ((l_day (ft_nr r)) - (l_day (ft_nr r)) / 7 * 7)).1 ∧ u = (w_grantPermit σ (((x2 >>> ((4 : Int32) &&& 31)) &&& 65535) - ((x2 >>> ((4 : Int32) &&& 31)) &&& 65535) / 4 * 4) ((l_day (ft_nr r)) - (l_day (ft_nr r)) / 7 * 7)).2 := ⟨congrArg Prod.fst hw, congrArg Prod.snd hw⟩
      rw [ht] at hB
      have hP := hB
      have hS := hS1
      clear hS1
      generalize H1 = H at hP hS ⊢
      refine W.widen (k := 1) (n := 6) (by omega) (by omega) ?_
      have hJ_167_27 : J (jc0 + 0) (w_grantPermit σ (((x2 >>> ((4 : Int32) &&& 31)) &&& 65535) - ((x2 >>> ((4 : Int32) &&& 31)) &&& 65535) / 4 * 4) ((l_day (ft_nr r)) - (l_day (ft_nr r)) / 7 * 7)).2 := hJ.mono (hJ.k_grantPermit _ _ h0 (by omega)) (by omega)
      have hq_167_28 : (w_grantPermit σ (((x2 >>> ((4 : Int32) &&& 31)) &&& 65535) - ((x2 >>> ((4 : Int32) &&& 31)) &&& 65535) / 4 * 4) ((l_day (ft_nr r)) - (l_day (ft_nr r)) / 7 * 7)).2.1 0 = ((w_grantPermit σ (((x2 >>> ((4 : Int32) &&& 31)) &&& 65535) - ((x2 >>> ((4 : Int32) &&& 31)) &&& 65535) / 4 * 4) ((l_day (ft_nr r)) - (l_day (ft_nr r)) / 7 * 7)).2.1 0) := rfl
      have hg_167_28 : G ((w_grantPermit σ (((x2 >>> ((4 : Int32) &&& 31)) &&& 65535) - ((x2 >>> ((4 : Int32) &&& 31)) &&& 65535) / 4 * 4) ((l_day (ft_nr r)) - (l_day (ft_nr r)) / 7 * 7)).2.1 0) := hJ.gr hJ_167_27 (by omega) hq_167_28
      refine W.widen (k := 26) (n := 3756) (by omega) (by omega) ?_
      exact W.iret (v := ((w_grantPermit σ (((x2 >>> ((4 : Int32) &&& 31)) &&& 65535) - ((x2 >>> ((4 : Int32) &&& 31)) &&& 65535) / 4 * 4) ((l_day (ft_nr r)) - (l_day (ft_nr r)) / 7 * 7)).1)) hx hb hr (fun t ht hW => ⟨⟨((w_grantPermit σ (((x2 >>> ((4 : Int32) &&& 31)) &&& 65535) - ((x2 >>> ((4 : Int32) &&& 31)) &&& 65535) / 4 * 4) ((l_day (ft_nr r)) - (l_day (ft_nr r)) / 7 * 7)).1), (w_grantPermit σ (((x2 >>> ((4 : Int32) &&& 31)) &&& 65535) - ((x2 >>> ((4 : Int32) &&& 31)) &&& 65535) / 4 * 4) ((l_day (ft_nr r)) - (l_day (ft_nr r)) / 7 * 7)).2, rfl, ⟨fun h9 => (hJ.f_grantPermit _ _ h0 (by omega) h9).trans hq, hJ.mono hJ_167_27 (by omega)⟩, by show ft_LW D k Z sz a _ t.heap; rw [ht]; exact hP⟩, hS.F ht⟩) hS.2.2 dL_act_170
    by_cases k_41_5 : (x2 &&& 15) = 5
    · skip
      refine lv_tableIn (tgt := 171) (off := 130) hx hb dL_act_41 (by rw [k_41_5]; decide) (by rw [k_41_5]; decide) (by rw [k_41_5]; rfl) (by decide) ?_
      refine lv_iload_n hx hb dL_act_171 rfl (lv_at hl 2 rfl) ?_
      refine lv_bipush (v := 64) hx hb dL_act_172 (by decide) ?_
      refine lv_iand hx hb dL_act_174 ?_
      refine lv_if_ne (tgt := 188) hx hb dL_act_175 (by decide) (fun c_175 => ?_) (fun c_175 => ?_)
      · skip
        refine lv_aload_n hx hb dL_act_188 rfl (lv_at hl 3 rfl) ?_
        refine lv_iload_n hx hb dL_act_189 rfl (lv_at hl 1 rfl) ?_
        refine lv_iload hx hb dL_act_190 (lv_at hl 0 rfl) ?_
        refine va_calli (vx_runSW (As := [.ref (a), .int (((x2 >>> ((4 : Int32) &&& 31)) &&& 65535) - ((x2 >>> ((4 : Int32) &&& 31)) &&& 65535) / 4 * 4), .int ((l_day (ft_nr r)) - (l_day (ft_nr r)) / 7 * 7)]) (rest := []) ⟨hx, hb, hml, hown, hts⟩ (d_L_grantPermit l hl0 D Z k sz a σ (((x2 >>> ((4 : Int32) &&& 31)) &&& 65535) - ((x2 >>> ((4 : Int32) &&& 31)) &&& 65535) / 4 * 4) ((l_day (ft_nr r)) - (l_day (ft_nr r)) / 7 * 7) (hJ.pm h0) (hJ.ex_grantPermit _ _ h0 (by omega))) (vx_cwSW 3 hts gL_act_L_grantPermit rfl rfl rfl (by decide +kernel) ⟨Nat.le_of_ble_eq_true rfl, Nat.le_of_ble_eq_true rfl⟩) (ft_preM hEL hz hS hP) rfl rfl hl.1 rfl (lv_room (Nat.le_of_ble_eq_true rfl)) dL_act_192 ⟨Nat.le_of_ble_eq_true rfl, Nat.le_of_ble_eq_true rfl⟩) hS (fun _ _ h => h) (fun _ h => h) (fun z u t H1 locs1 ht hvm hw hB hz1 hk1 hS1 => ?_)
        obtain ⟨rfl, rfl⟩ : z = (w_grantPermit σ (((x2 >>> ((4 : Int32) &&& 31)) &&& 65535) - ((x2 >>> ((4 : Int32) &&& 31)) &&& 65535) / 4 * 4) ((l_day (ft_nr r)) - (l_day (ft_nr r)) / 7 * 7)).1 ∧ u = (w_grantPermit σ (((x2 >>> ((4 : Int32) &&& 31)) &&& 65535) - ((x2 >>> ((4 : Int32) &&& 31)) &&& 65535) / 4 * 4) ((l_day (ft_nr r)) - (l_day (ft_nr r)) / 7 * 7)).2 := ⟨congrArg Prod.fst hw, congrArg Prod.snd hw⟩
        rw [ht] at hB
        have hP := hB
        have hS := hS1
        clear hS1
        generalize H1 = H at hP hS ⊢
        refine W.widen (k := 1) (n := 6) (by omega) (by omega) ?_
        have hJ_192_28 : J (jc0 + 0) (w_grantPermit σ (((x2 >>> ((4 : Int32) &&& 31)) &&& 65535) - ((x2 >>> ((4 : Int32) &&& 31)) &&& 65535) / 4 * 4) ((l_day (ft_nr r)) - (l_day (ft_nr r)) / 7 * 7)).2 := hJ.mono (hJ.k_grantPermit _ _ h0 (by omega)) (by omega)
        have hq_192_29 : (w_grantPermit σ (((x2 >>> ((4 : Int32) &&& 31)) &&& 65535) - ((x2 >>> ((4 : Int32) &&& 31)) &&& 65535) / 4 * 4) ((l_day (ft_nr r)) - (l_day (ft_nr r)) / 7 * 7)).2.1 0 = ((w_grantPermit σ (((x2 >>> ((4 : Int32) &&& 31)) &&& 65535) - ((x2 >>> ((4 : Int32) &&& 31)) &&& 65535) / 4 * 4) ((l_day (ft_nr r)) - (l_day (ft_nr r)) / 7 * 7)).2.1 0) := rfl
        have hg_192_29 : G ((w_grantPermit σ (((x2 >>> ((4 : Int32) &&& 31)) &&& 65535) - ((x2 >>> ((4 : Int32) &&& 31)) &&& 65535) / 4 * 4) ((l_day (ft_nr r)) - (l_day (ft_nr r)) / 7 * 7)).2.1 0) := hJ.gr hJ_192_28 (by omega) hq_192_29
        refine W.widen (k := 26) (n := 3756) (by omega) (by omega) ?_
        exact W.iret (v := ((w_grantPermit σ (((x2 >>> ((4 : Int32) &&& 31)) &&& 65535) - ((x2 >>> ((4 : Int32) &&& 31)) &&& 65535) / 4 * 4) ((l_day (ft_nr r)) - (l_day (ft_nr r)) / 7 * 7)).1)) hx hb hr (fun t ht hW => ⟨⟨((w_grantPermit σ (((x2 >>> ((4 : Int32) &&& 31)) &&& 65535) - ((x2 >>> ((4 : Int32) &&& 31)) &&& 65535) / 4 * 4) ((l_day (ft_nr r)) - (l_day (ft_nr r)) / 7 * 7)).1), (w_grantPermit σ (((x2 >>> ((4 : Int32) &&& 31)) &&& 65535) - ((x2 >>> ((4 : Int32) &&& 31)) &&& 65535) / 4 * 4) ((l_day (ft_nr r)) - (l_day (ft_nr r)) / 7 * 7)).2, rfl, ⟨fun h9 => (hJ.f_grantPermit _ _ h0 (by omega) h9).trans hq, hJ.mono hJ_192_28 (by omega)⟩, by show ft_LW D k Z sz a _ t.heap; rw [ht]; exact hP⟩, hS.F ht⟩) hS.2.2 dL_act_195
      · skip
        refine lv_aload_n hx hb dL_act_178 rfl (lv_at hl 3 rfl) ?_
        refine lv_iload_n hx hb dL_act_179 rfl (lv_at hl 1 rfl) ?_
        refine lv_iload hx hb dL_act_180 (lv_at hl 0 rfl) ?_
        refine va_calli (vx_runSW (As := [.ref (a), .int (((x2 >>> ((4 : Int32) &&& 31)) &&& 65535) - ((x2 >>> ((4 : Int32) &&& 31)) &&& 65535) / 4 * 4), .int ((l_day (ft_nr r)) - (l_day (ft_nr r)) / 7 * 7)]) (rest := []) ⟨hx, hb, hml, hown, hts⟩ (d_L_revokePermit l hl0 D Z k sz a σ (((x2 >>> ((4 : Int32) &&& 31)) &&& 65535) - ((x2 >>> ((4 : Int32) &&& 31)) &&& 65535) / 4 * 4) ((l_day (ft_nr r)) - (l_day (ft_nr r)) / 7 * 7) (hJ.pm h0) (hJ.ex_revokePermit _ _ h0 (by omega))) (vx_cwSW 3 hts gL_act_L_revokePermit rfl rfl rfl (by decide +kernel) ⟨Nat.le_of_ble_eq_true rfl, Nat.le_of_ble_eq_true rfl⟩) (ft_preM hEL hz hS hP) rfl rfl hl.1 rfl (lv_room (Nat.le_of_ble_eq_true rfl)) dL_act_182 ⟨Nat.le_of_ble_eq_true rfl, Nat.le_of_ble_eq_true rfl⟩) hS (fun _ _ h => h) (fun _ h => h) (fun z u t H1 locs1 ht hvm hw hB hz1 hk1 hS1 => ?_)
        obtain ⟨rfl, rfl⟩ : z = (w_revokePermit σ (((x2 >>> ((4 : Int32) &&& 31)) &&& 65535) - ((x2 >>> ((4 : Int32) &&& 31)) &&& 65535) / 4 * 4) ((l_day (ft_nr r)) - (l_day (ft_nr r)) / 7 * 7)).1 ∧ u = (w_revokePermit σ (((x2 >>> ((4 : Int32) &&& 31)) &&& 65535) - ((x2 >>> ((4 : Int32) &&& 31)) &&& 65535) / 4 * 4) ((l_day (ft_nr r)) - (l_day (ft_nr r)) / 7 * 7)).2 := ⟨congrArg Prod.fst hw, congrArg Prod.snd hw⟩
        rw [ht] at hB
        have hP := hB
        have hS := hS1
        clear hS1
        generalize H1 = H at hP hS ⊢
        refine W.widen (k := 1) (n := 6) (by omega) (by omega) ?_
        have hJ_182_29 : J (jc0 + 0) (w_revokePermit σ (((x2 >>> ((4 : Int32) &&& 31)) &&& 65535) - ((x2 >>> ((4 : Int32) &&& 31)) &&& 65535) / 4 * 4) ((l_day (ft_nr r)) - (l_day (ft_nr r)) / 7 * 7)).2 := hJ.mono (hJ.k_revokePermit _ _ h0 (by omega)) (by omega)
        have hq_182_30 : (w_revokePermit σ (((x2 >>> ((4 : Int32) &&& 31)) &&& 65535) - ((x2 >>> ((4 : Int32) &&& 31)) &&& 65535) / 4 * 4) ((l_day (ft_nr r)) - (l_day (ft_nr r)) / 7 * 7)).2.1 0 = ((w_revokePermit σ (((x2 >>> ((4 : Int32) &&& 31)) &&& 65535) - ((x2 >>> ((4 : Int32) &&& 31)) &&& 65535) / 4 * 4) ((l_day (ft_nr r)) - (l_day (ft_nr r)) / 7 * 7)).2.1 0) := rfl
        have hg_182_30 : G ((w_revokePermit σ (((x2 >>> ((4 : Int32) &&& 31)) &&& 65535) - ((x2 >>> ((4 : Int32) &&& 31)) &&& 65535) / 4 * 4) ((l_day (ft_nr r)) - (l_day (ft_nr r)) / 7 * 7)).2.1 0) := hJ.gr hJ_182_29 (by omega) hq_182_30
        refine lv_goto (tgt := 195) hx hb dL_act_185 (by decide) ?_
        refine W.widen (k := 26) (n := 3756) (by omega) (by omega) ?_
        exact W.iret (v := ((w_revokePermit σ (((x2 >>> ((4 : Int32) &&& 31)) &&& 65535) - ((x2 >>> ((4 : Int32) &&& 31)) &&& 65535) / 4 * 4) ((l_day (ft_nr r)) - (l_day (ft_nr r)) / 7 * 7)).1)) hx hb hr (fun t ht hW => ⟨⟨((w_revokePermit σ (((x2 >>> ((4 : Int32) &&& 31)) &&& 65535) - ((x2 >>> ((4 : Int32) &&& 31)) &&& 65535) / 4 * 4) ((l_day (ft_nr r)) - (l_day (ft_nr r)) / 7 * 7)).1), (w_revokePermit σ (((x2 >>> ((4 : Int32) &&& 31)) &&& 65535) - ((x2 >>> ((4 : Int32) &&& 31)) &&& 65535) / 4 * 4) ((l_day (ft_nr r)) - (l_day (ft_nr r)) / 7 * 7)).2, rfl, ⟨fun h9 => (hJ.f_revokePermit _ _ h0 (by omega) h9).trans hq, hJ.mono hJ_182_29 (by omega)⟩, by show ft_LW D k Z sz a _ t.heap; rw [ht]; exact hP⟩, hS.F ht⟩) hS.2.2 dL_act_195
    by_cases k_41_6 : (x2 &&& 15) = 6
    · skip
      refine lv_tableIn (tgt := 196) (off := 155) hx hb dL_act_41 (by rw [k_41_6]; decide) (by rw [k_41_6]; decide) (by rw [k_41_6]; rfl) (by decide) ?_
      refine lv_aload_n hx hb dL_act_196 rfl (lv_at hl 3 rfl) ?_
      refine lv_iload_n hx hb dL_act_197 rfl (lv_at hl 1 rfl) ?_
      refine lv_iload_n hx hb dL_act_198 rfl (lv_at hl 2 rfl) ?_
      refine lv_iconst (v := 4) hx hb dL_act_199 (by decide) ?_
      refine lv_ishr hx hb dL_act_200 ?_
      refine lv_bipush (v := 6) hx hb dL_act_201 (by decide) ?_
      refine lv_irem hx hb dL_act_203 (by decide) ?_
      refine lv_iload hx hb dL_act_204 (lv_at hl 0 rfl) ?_
      refine va_calli (vx_runSW (As := [.ref (a), .int (((x2 >>> ((4 : Int32) &&& 31)) &&& 65535) - ((x2 >>> ((4 : Int32) &&& 31)) &&& 65535) / 4 * 4), .int ((((x2 >>> ((4 : Int32) &&& 31)) &&& 65535) >>> ((4 : Int32) &&& 31)) - (((x2 >>> ((4 : Int32) &&& 31)) &&& 65535) >>> ((4 : Int32) &&& 31)) / 6 * 6), .int ((l_day (ft_nr r)) - (l_day (ft_nr r)) / 7 * 7)]) (rest := []) ⟨hx, hb, hml, hown, hts⟩ (d_L_assign l hl0 D Z k sz a σ (((x2 >>> ((4 : Int32) &&& 31)) &&& 65535) - ((x2 >>> ((4 : Int32) &&& 31)) &&& 65535) / 4 * 4) ((((x2 >>> ((4 : Int32) &&& 31)) &&& 65535) >>> ((4 : Int32) &&& 31)) - (((x2 >>> ((4 : Int32) &&& 31)) &&& 65535) >>> ((4 : Int32) &&& 31)) / 6 * 6) ((l_day (ft_nr r)) - (l_day (ft_nr r)) / 7 * 7) (hJ.pm h0) (hJ.ex_assign _ _ _ h0 (by omega))) (vx_cwSW 4 hts gL_act_L_assign rfl rfl rfl (by decide +kernel) ⟨Nat.le_of_ble_eq_true rfl, Nat.le_of_ble_eq_true rfl⟩) (ft_preM hEL hz hS hP) rfl rfl hl.1 rfl (lv_room (Nat.le_of_ble_eq_true rfl)) dL_act_206 ⟨Nat.le_of_ble_eq_true rfl, Nat.le_of_ble_eq_true rfl⟩) hS (fun _ _ h => h) (fun _ h => h) (fun z u t H1 locs1 ht hvm hw hB hz1 hk1 hS1 => ?_)
      obtain ⟨rfl, rfl⟩ : z = (w_assign σ (((x2 >>> ((4 : Int32) &&& 31)) &&& 65535) - ((x2 >>> ((4 : Int32) &&& 31)) &&& 65535) / 4 * 4) ((((x2 >>> ((4 : Int32) &&& 31)) &&& 65535) >>> ((4 : Int32) &&& 31)) - (((x2 >>> ((4 : Int32) &&& 31)) &&& 65535) >>> ((4 : Int32) &&& 31)) / 6 * 6) ((l_day (ft_nr r)) - (l_day (ft_nr r)) / 7 * 7)).1 ∧ u = (w_assign σ (((x2 >>> ((4 : Int32) &&& 31)) &&& 65535) - ((x2 >>> ((4 : Int32) &&& 31)) &&& 65535) / 4 * 4) ((((x2 >>> ((4 : Int32) &&& 31)) &&& 65535) >>> ((4 : Int32) &&& 31)) - (((x2 >>> ((4 : Int32) &&& 31)) &&& 65535) >>> ((4 : Int32) &&& 31)) / 6 * 6) ((l_day (ft_nr r)) - (l_day (ft_nr r)) / 7 * 7)).2 := ⟨congrArg Prod.fst hw, congrArg Prod.snd hw⟩
      rw [ht] at hB
      have hP := hB
      have hS := hS1
      clear hS1
      generalize H1 = H at hP hS ⊢
      refine W.widen (k := 1) (n := 6) (by omega) (by omega) ?_
      have hJ_206_30 : J (jc0 + 0) (w_assign σ (((x2 >>> ((4 : Int32) &&& 31)) &&& 65535) - ((x2 >>> ((4 : Int32) &&& 31)) &&& 65535) / 4 * 4) ((((x2 >>> ((4 : Int32) &&& 31)) &&& 65535) >>> ((4 : Int32) &&& 31)) - (((x2 >>> ((4 : Int32) &&& 31)) &&& 65535) >>> ((4 : Int32) &&& 31)) / 6 * 6) ((l_day (ft_nr r)) - (l_day (ft_nr r)) / 7 * 7)).2 := hJ.mono (hJ.k_assign _ _ _ h0 (by omega)) (by omega)
      have hq_206_31 : (w_assign σ (((x2 >>> ((4 : Int32) &&& 31)) &&& 65535) - ((x2 >>> ((4 : Int32) &&& 31)) &&& 65535) / 4 * 4) ((((x2 >>> ((4 : Int32) &&& 31)) &&& 65535) >>> ((4 : Int32) &&& 31)) - (((x2 >>> ((4 : Int32) &&& 31)) &&& 65535) >>> ((4 : Int32) &&& 31)) / 6 * 6) ((l_day (ft_nr r)) - (l_day (ft_nr r)) / 7 * 7)).2.1 0 = ((w_assign σ (((x2 >>> ((4 : Int32) &&& 31)) &&& 65535) - ((x2 >>> ((4 : Int32) &&& 31)) &&& 65535) / 4 * 4) ((((x2 >>> ((4 : Int32) &&& 31)) &&& 65535) >>> ((4 : Int32) &&& 31)) - (((x2 >>> ((4 : Int32) &&& 31)) &&& 65535) >>> ((4 : Int32) &&& 31)) / 6 * 6) ((l_day (ft_nr r)) - (l_day (ft_nr r)) / 7 * 7)).2.1 0) := rfl
      have hg_206_31 : G ((w_assign σ (((x2 >>> ((4 : Int32) &&& 31)) &&& 65535) - ((x2 >>> ((4 : Int32) &&& 31)) &&& 65535) / 4 * 4) ((((x2 >>> ((4 : Int32) &&& 31)) &&& 65535) >>> ((4 : Int32) &&& 31)) - (((x2 >>> ((4 : Int32) &&& 31)) &&& 65535) >>> ((4 : Int32) &&& 31)) / 6 * 6) ((l_day (ft_nr r)) - (l_day (ft_nr r)) / 7 * 7)).2.1 0) := hJ.gr hJ_206_30 (by omega) hq_206_31
      refine W.widen (k := 26) (n := 3756) (by omega) (by omega) ?_
      exact W.iret (v := ((w_assign σ (((x2 >>> ((4 : Int32) &&& 31)) &&& 65535) - ((x2 >>> ((4 : Int32) &&& 31)) &&& 65535) / 4 * 4) ((((x2 >>> ((4 : Int32) &&& 31)) &&& 65535) >>> ((4 : Int32) &&& 31)) - (((x2 >>> ((4 : Int32) &&& 31)) &&& 65535) >>> ((4 : Int32) &&& 31)) / 6 * 6) ((l_day (ft_nr r)) - (l_day (ft_nr r)) / 7 * 7)).1)) hx hb hr (fun t ht hW => ⟨⟨((w_assign σ (((x2 >>> ((4 : Int32) &&& 31)) &&& 65535) - ((x2 >>> ((4 : Int32) &&& 31)) &&& 65535) / 4 * 4) ((((x2 >>> ((4 : Int32) &&& 31)) &&& 65535) >>> ((4 : Int32) &&& 31)) - (((x2 >>> ((4 : Int32) &&& 31)) &&& 65535) >>> ((4 : Int32) &&& 31)) / 6 * 6) ((l_day (ft_nr r)) - (l_day (ft_nr r)) / 7 * 7)).1), (w_assign σ (((x2 >>> ((4 : Int32) &&& 31)) &&& 65535) - ((x2 >>> ((4 : Int32) &&& 31)) &&& 65535) / 4 * 4) ((((x2 >>> ((4 : Int32) &&& 31)) &&& 65535) >>> ((4 : Int32) &&& 31)) - (((x2 >>> ((4 : Int32) &&& 31)) &&& 65535) >>> ((4 : Int32) &&& 31)) / 6 * 6) ((l_day (ft_nr r)) - (l_day (ft_nr r)) / 7 * 7)).2, rfl, ⟨fun h9 => (hJ.f_assign _ _ _ h0 (by omega) h9).trans hq, hJ.mono hJ_206_30 (by omega)⟩, by show ft_LW D k Z sz a _ t.heap; rw [ht]; exact hP⟩, hS.F ht⟩) hS.2.2 dL_act_209
    by_cases k_41_7 : (x2 &&& 15) = 7
    · skip
      refine lv_tableIn (tgt := 196) (off := 155) hx hb dL_act_41 (by rw [k_41_7]; decide) (by rw [k_41_7]; decide) (by rw [k_41_7]; rfl) (by decide) ?_
      refine lv_aload_n hx hb dL_act_196 rfl (lv_at hl 3 rfl) ?_
      refine lv_iload_n hx hb dL_act_197 rfl (lv_at hl 1 rfl) ?_
      refine lv_iload_n hx hb dL_act_198 rfl (lv_at hl 2 rfl) ?_
      refine lv_iconst (v := 4) hx hb dL_act_199 (by decide) ?_
      refine lv_ishr hx hb dL_act_200 ?_
      refine lv_bipush (v := 6) hx hb dL_act_201 (by decide) ?_
      refine lv_irem hx hb dL_act_203 (by decide) ?_
      refine lv_iload hx hb dL_act_204 (lv_at hl 0 rfl) ?_
      refine va_calli (vx_runSW (As := [.ref (a), .int (((x2 >>> ((4 : Int32) &&& 31)) &&& 65535) - ((x2 >>> ((4 : Int32) &&& 31)) &&& 65535) / 4 * 4), .int ((((x2 >>> ((4 : Int32) &&& 31)) &&& 65535) >>> ((4 : Int32) &&& 31)) - (((x2 >>> ((4 : Int32) &&& 31)) &&& 65535) >>> ((4 : Int32) &&& 31)) / 6 * 6), .int ((l_day (ft_nr r)) - (l_day (ft_nr r)) / 7 * 7)]) (rest := []) ⟨hx, hb, hml, hown, hts⟩ (d_L_assign l hl0 D Z k sz a σ (((x2 >>> ((4 : Int32) &&& 31)) &&& 65535) - ((x2 >>> ((4 : Int32) &&& 31)) &&& 65535) / 4 * 4) ((((x2 >>> ((4 : Int32) &&& 31)) &&& 65535) >>> ((4 : Int32) &&& 31)) - (((x2 >>> ((4 : Int32) &&& 31)) &&& 65535) >>> ((4 : Int32) &&& 31)) / 6 * 6) ((l_day (ft_nr r)) - (l_day (ft_nr r)) / 7 * 7) (hJ.pm h0) (hJ.ex_assign _ _ _ h0 (by omega))) (vx_cwSW 4 hts gL_act_L_assign rfl rfl rfl (by decide +kernel) ⟨Nat.le_of_ble_eq_true rfl, Nat.le_of_ble_eq_true rfl⟩) (ft_preM hEL hz hS hP) rfl rfl hl.1 rfl (lv_room (Nat.le_of_ble_eq_true rfl)) dL_act_206 ⟨Nat.le_of_ble_eq_true rfl, Nat.le_of_ble_eq_true rfl⟩) hS (fun _ _ h => h) (fun _ h => h) (fun z u t H1 locs1 ht hvm hw hB hz1 hk1 hS1 => ?_)
      obtain ⟨rfl, rfl⟩ : z = (w_assign σ (((x2 >>> ((4 : Int32) &&& 31)) &&& 65535) - ((x2 >>> ((4 : Int32) &&& 31)) &&& 65535) / 4 * 4) ((((x2 >>> ((4 : Int32) &&& 31)) &&& 65535) >>> ((4 : Int32) &&& 31)) - (((x2 >>> ((4 : Int32) &&& 31)) &&& 65535) >>> ((4 : Int32) &&& 31)) / 6 * 6) ((l_day (ft_nr r)) - (l_day (ft_nr r)) / 7 * 7)).1 ∧ u = (w_assign σ (((x2 >>> ((4 : Int32) &&& 31)) &&& 65535) - ((x2 >>> ((4 : Int32) &&& 31)) &&& 65535) / 4 * 4) ((((x2 >>> ((4 : Int32) &&& 31)) &&& 65535) >>> ((4 : Int32) &&& 31)) - (((x2 >>> ((4 : Int32) &&& 31)) &&& 65535) >>> ((4 : Int32) &&& 31)) / 6 * 6) ((l_day (ft_nr r)) - (l_day (ft_nr r)) / 7 * 7)).2 := ⟨congrArg Prod.fst hw, congrArg Prod.snd hw⟩
      rw [ht] at hB
      have hP := hB
      have hS := hS1
      clear hS1
      generalize H1 = H at hP hS ⊢
      refine W.widen (k := 1) (n := 6) (by omega) (by omega) ?_
      have hJ_206_31 : J (jc0 + 0) (w_assign σ (((x2 >>> ((4 : Int32) &&& 31)) &&& 65535) - ((x2 >>> ((4 : Int32) &&& 31)) &&& 65535) / 4 * 4) ((((x2 >>> ((4 : Int32) &&& 31)) &&& 65535) >>> ((4 : Int32) &&& 31)) - (((x2 >>> ((4 : Int32) &&& 31)) &&& 65535) >>> ((4 : Int32) &&& 31)) / 6 * 6) ((l_day (ft_nr r)) - (l_day (ft_nr r)) / 7 * 7)).2 := hJ.mono (hJ.k_assign _ _ _ h0 (by omega)) (by omega)
      have hq_206_32 : (w_assign σ (((x2 >>> ((4 : Int32) &&& 31)) &&& 65535) - ((x2 >>> ((4 : Int32) &&& 31)) &&& 65535) / 4 * 4) ((((x2 >>> ((4 : Int32) &&& 31)) &&& 65535) >>> ((4 : Int32) &&& 31)) - (((x2 >>> ((4 : Int32) &&& 31)) &&& 65535) >>> ((4 : Int32) &&& 31)) / 6 * 6) ((l_day (ft_nr r)) - (l_day (ft_nr r)) / 7 * 7)).2.1 0 = ((w_assign σ (((x2 >>> ((4 : Int32) &&& 31)) &&& 65535) - ((x2 >>> ((4 : Int32) &&& 31)) &&& 65535) / 4 * 4) ((((x2 >>> ((4 : Int32) &&& 31)) &&& 65535) >>> ((4 : Int32) &&& 31)) - (((x2 >>> ((4 : Int32) &&& 31)) &&& 65535) >>> ((4 : Int32) &&& 31)) / 6 * 6) ((l_day (ft_nr r)) - (l_day (ft_nr r)) / 7 * 7)).2.1 0) := rfl
      have hg_206_32 : G ((w_assign σ (((x2 >>> ((4 : Int32) &&& 31)) &&& 65535) - ((x2 >>> ((4 : Int32) &&& 31)) &&& 65535) / 4 * 4) ((((x2 >>> ((4 : Int32) &&& 31)) &&& 65535) >>> ((4 : Int32) &&& 31)) - (((x2 >>> ((4 : Int32) &&& 31)) &&& 65535) >>> ((4 : Int32) &&& 31)) / 6 * 6) ((l_day (ft_nr r)) - (l_day (ft_nr r)) / 7 * 7)).2.1 0) := hJ.gr hJ_206_31 (by omega) hq_206_32
      refine W.widen (k := 26) (n := 3756) (by omega) (by omega) ?_
      exact W.iret (v := ((w_assign σ (((x2 >>> ((4 : Int32) &&& 31)) &&& 65535) - ((x2 >>> ((4 : Int32) &&& 31)) &&& 65535) / 4 * 4) ((((x2 >>> ((4 : Int32) &&& 31)) &&& 65535) >>> ((4 : Int32) &&& 31)) - (((x2 >>> ((4 : Int32) &&& 31)) &&& 65535) >>> ((4 : Int32) &&& 31)) / 6 * 6) ((l_day (ft_nr r)) - (l_day (ft_nr r)) / 7 * 7)).1)) hx hb hr (fun t ht hW => ⟨⟨((w_assign σ (((x2 >>> ((4 : Int32) &&& 31)) &&& 65535) - ((x2 >>> ((4 : Int32) &&& 31)) &&& 65535) / 4 * 4) ((((x2 >>> ((4 : Int32) &&& 31)) &&& 65535) >>> ((4 : Int32) &&& 31)) - (((x2 >>> ((4 : Int32) &&& 31)) &&& 65535) >>> ((4 : Int32) &&& 31)) / 6 * 6) ((l_day (ft_nr r)) - (l_day (ft_nr r)) / 7 * 7)).1), (w_assign σ (((x2 >>> ((4 : Int32) &&& 31)) &&& 65535) - ((x2 >>> ((4 : Int32) &&& 31)) &&& 65535) / 4 * 4) ((((x2 >>> ((4 : Int32) &&& 31)) &&& 65535) >>> ((4 : Int32) &&& 31)) - (((x2 >>> ((4 : Int32) &&& 31)) &&& 65535) >>> ((4 : Int32) &&& 31)) / 6 * 6) ((l_day (ft_nr r)) - (l_day (ft_nr r)) / 7 * 7)).2, rfl, ⟨fun h9 => (hJ.f_assign _ _ _ h0 (by omega) h9).trans hq, hJ.mono hJ_206_31 (by omega)⟩, by show ft_LW D k Z sz a _ t.heap; rw [ht]; exact hP⟩, hS.F ht⟩) hS.2.2 dL_act_209
    by_cases k_41_8 : (x2 &&& 15) = 8
    · skip
      refine lv_tableIn (tgt := 210) (off := 169) hx hb dL_act_41 (by rw [k_41_8]; decide) (by rw [k_41_8]; decide) (by rw [k_41_8]; rfl) (by decide) ?_
      refine lv_aload_n hx hb dL_act_210 rfl (lv_at hl 3 rfl) ?_
      refine lv_iload_n hx hb dL_act_211 rfl (lv_at hl 2 rfl) ?_
      refine lv_iconst (v := 4) hx hb dL_act_212 (by decide) ?_
      refine lv_ishr hx hb dL_act_213 ?_
      refine lv_bipush (v := 6) hx hb dL_act_214 (by decide) ?_
      refine lv_irem hx hb dL_act_216 (by decide) ?_
      refine lv_iload hx hb dL_act_217 (lv_at hl 0 rfl) ?_
      refine va_calli (vx_runSW (As := [.ref (a), .int ((((x2 >>> ((4 : Int32) &&& 31)) &&& 65535) >>> ((4 : Int32) &&& 31)) - (((x2 >>> ((4 : Int32) &&& 31)) &&& 65535) >>> ((4 : Int32) &&& 31)) / 6 * 6), .int ((l_day (ft_nr r)) - (l_day (ft_nr r)) / 7 * 7)]) (rest := []) ⟨hx, hb, hml, hown, hts⟩ (d_L_release l hl0 D Z k sz a σ ((((x2 >>> ((4 : Int32) &&& 31)) &&& 65535) >>> ((4 : Int32) &&& 31)) - (((x2 >>> ((4 : Int32) &&& 31)) &&& 65535) >>> ((4 : Int32) &&& 31)) / 6 * 6) ((l_day (ft_nr r)) - (l_day (ft_nr r)) / 7 * 7) (hJ.pm h0) (hJ.ex_release _ _ h0 (by omega))) (vx_cwSW 3 hts gL_act_L_release rfl rfl rfl (by decide +kernel) ⟨Nat.le_of_ble_eq_true rfl, Nat.le_of_ble_eq_true rfl⟩) (ft_preM hEL hz hS hP) rfl rfl hl.1 rfl (lv_room (Nat.le_of_ble_eq_true rfl)) dL_act_219 ⟨Nat.le_of_ble_eq_true rfl, Nat.le_of_ble_eq_true rfl⟩) hS (fun _ _ h => h) (fun _ h => h) (fun z u t H1 locs1 ht hvm hw hB hz1 hk1 hS1 => ?_)
      obtain ⟨rfl, rfl⟩ : z = (w_release σ ((((x2 >>> ((4 : Int32) &&& 31)) &&& 65535) >>> ((4 : Int32) &&& 31)) - (((x2 >>> ((4 : Int32) &&& 31)) &&& 65535) >>> ((4 : Int32) &&& 31)) / 6 * 6) ((l_day (ft_nr r)) - (l_day (ft_nr r)) / 7 * 7)).1 ∧ u = (w_release σ ((((x2 >>> ((4 : Int32) &&& 31)) &&& 65535) >>> ((4 : Int32) &&& 31)) - (((x2 >>> ((4 : Int32) &&& 31)) &&& 65535) >>> ((4 : Int32) &&& 31)) / 6 * 6) ((l_day (ft_nr r)) - (l_day (ft_nr r)) / 7 * 7)).2 := ⟨congrArg Prod.fst hw, congrArg Prod.snd hw⟩
      rw [ht] at hB
      have hP := hB
      have hS := hS1
      clear hS1
      generalize H1 = H at hP hS ⊢
      refine W.widen (k := 1) (n := 6) (by omega) (by omega) ?_
      have hJ_219_32 : J (jc0 + 0) (w_release σ ((((x2 >>> ((4 : Int32) &&& 31)) &&& 65535) >>> ((4 : Int32) &&& 31)) - (((x2 >>> ((4 : Int32) &&& 31)) &&& 65535) >>> ((4 : Int32) &&& 31)) / 6 * 6) ((l_day (ft_nr r)) - (l_day (ft_nr r)) / 7 * 7)).2 := hJ.mono (hJ.k_release _ _ h0 (by omega)) (by omega)
      have hq_219_33 : (w_release σ ((((x2 >>> ((4 : Int32) &&& 31)) &&& 65535) >>> ((4 : Int32) &&& 31)) - (((x2 >>> ((4 : Int32) &&& 31)) &&& 65535) >>> ((4 : Int32) &&& 31)) / 6 * 6) ((l_day (ft_nr r)) - (l_day (ft_nr r)) / 7 * 7)).2.1 0 = ((w_release σ ((((x2 >>> ((4 : Int32) &&& 31)) &&& 65535) >>> ((4 : Int32) &&& 31)) - (((x2 >>> ((4 : Int32) &&& 31)) &&& 65535) >>> ((4 : Int32) &&& 31)) / 6 * 6) ((l_day (ft_nr r)) - (l_day (ft_nr r)) / 7 * 7)).2.1 0) := rfl
      have hg_219_33 : G ((w_release σ ((((x2 >>> ((4 : Int32) &&& 31)) &&& 65535) >>> ((4 : Int32) &&& 31)) - (((x2 >>> ((4 : Int32) &&& 31)) &&& 65535) >>> ((4 : Int32) &&& 31)) / 6 * 6) ((l_day (ft_nr r)) - (l_day (ft_nr r)) / 7 * 7)).2.1 0) := hJ.gr hJ_219_32 (by omega) hq_219_33
      refine W.widen (k := 26) (n := 3756) (by omega) (by omega) ?_
      exact W.iret (v := ((w_release σ ((((x2 >>> ((4 : Int32) &&& 31)) &&& 65535) >>> ((4 : Int32) &&& 31)) - (((x2 >>> ((4 : Int32) &&& 31)) &&& 65535) >>> ((4 : Int32) &&& 31)) / 6 * 6) ((l_day (ft_nr r)) - (l_day (ft_nr r)) / 7 * 7)).1)) hx hb hr (fun t ht hW => ⟨⟨((w_release σ ((((x2 >>> ((4 : Int32) &&& 31)) &&& 65535) >>> ((4 : Int32) &&& 31)) - (((x2 >>> ((4 : Int32) &&& 31)) &&& 65535) >>> ((4 : Int32) &&& 31)) / 6 * 6) ((l_day (ft_nr r)) - (l_day (ft_nr r)) / 7 * 7)).1), (w_release σ ((((x2 >>> ((4 : Int32) &&& 31)) &&& 65535) >>> ((4 : Int32) &&& 31)) - (((x2 >>> ((4 : Int32) &&& 31)) &&& 65535) >>> ((4 : Int32) &&& 31)) / 6 * 6) ((l_day (ft_nr r)) - (l_day (ft_nr r)) / 7 * 7)).2, rfl, ⟨fun h9 => (hJ.f_release _ _ h0 (by omega) h9).trans hq, hJ.mono hJ_219_32 (by omega)⟩, by show ft_LW D k Z sz a _ t.heap; rw [ht]; exact hP⟩, hS.F ht⟩) hS.2.2 dL_act_222
    by_cases k_41_9 : (x2 &&& 15) = 9
    · skip
      refine lv_tableIn (tgt := 223) (off := 182) hx hb dL_act_41 (by rw [k_41_9]; decide) (by rw [k_41_9]; decide) (by rw [k_41_9]; rfl) (by decide) ?_
      refine lv_aload_n hx hb dL_act_223 rfl (lv_at hl 3 rfl) ?_
      refine lv_iload_n hx hb dL_act_224 rfl (lv_at hl 2 rfl) ?_
      refine lv_iconst (v := 2) hx hb dL_act_225 (by decide) ?_
      refine lv_ishr hx hb dL_act_226 ?_
      refine lv_iconst (v := 5) hx hb dL_act_227 (by decide) ?_
      refine lv_irem hx hb dL_act_228 (by decide) ?_
      refine va_calli (vx_runSW (As := [.ref (a), .int ((((x2 >>> ((4 : Int32) &&& 31)) &&& 65535) >>> ((2 : Int32) &&& 31)) - (((x2 >>> ((4 : Int32) &&& 31)) &&& 65535) >>> ((2 : Int32) &&& 31)) / 5 * 5)]) (rest := []) ⟨hx, hb, hml, hown, hts⟩ (d_L_setWeather l hl0 D Z k sz a σ ((((x2 >>> ((4 : Int32) &&& 31)) &&& 65535) >>> ((2 : Int32) &&& 31)) - (((x2 >>> ((4 : Int32) &&& 31)) &&& 65535) >>> ((2 : Int32) &&& 31)) / 5 * 5) (hJ.pm h0) (hJ.ex_setWeather _ h0 (by omega))) (vx_cwSW 2 hts gL_act_L_setWeather rfl rfl rfl (by decide +kernel) ⟨Nat.le_of_ble_eq_true rfl, Nat.le_of_ble_eq_true rfl⟩) (ft_preM hEL hz hS hP) rfl rfl hl.1 rfl (lv_room (Nat.le_of_ble_eq_true rfl)) dL_act_229 ⟨Nat.le_of_ble_eq_true rfl, Nat.le_of_ble_eq_true rfl⟩) hS (fun _ _ h => h) (fun _ h => h) (fun z u t H1 locs1 ht hvm hw hB hz1 hk1 hS1 => ?_)
      obtain ⟨rfl, rfl⟩ : z = (w_setWeather σ ((((x2 >>> ((4 : Int32) &&& 31)) &&& 65535) >>> ((2 : Int32) &&& 31)) - (((x2 >>> ((4 : Int32) &&& 31)) &&& 65535) >>> ((2 : Int32) &&& 31)) / 5 * 5)).1 ∧ u = (w_setWeather σ ((((x2 >>> ((4 : Int32) &&& 31)) &&& 65535) >>> ((2 : Int32) &&& 31)) - (((x2 >>> ((4 : Int32) &&& 31)) &&& 65535) >>> ((2 : Int32) &&& 31)) / 5 * 5)).2 := ⟨congrArg Prod.fst hw, congrArg Prod.snd hw⟩
      rw [ht] at hB
      have hP := hB
      have hS := hS1
      clear hS1
      generalize H1 = H at hP hS ⊢
      refine W.widen (k := 1) (n := 6) (by omega) (by omega) ?_
      have hJ_229_33 : J (jc0 + 0) (w_setWeather σ ((((x2 >>> ((4 : Int32) &&& 31)) &&& 65535) >>> ((2 : Int32) &&& 31)) - (((x2 >>> ((4 : Int32) &&& 31)) &&& 65535) >>> ((2 : Int32) &&& 31)) / 5 * 5)).2 := hJ.mono (hJ.k_setWeather _ h0 (by omega)) (by omega)
      have hq_229_34 : (w_setWeather σ ((((x2 >>> ((4 : Int32) &&& 31)) &&& 65535) >>> ((2 : Int32) &&& 31)) - (((x2 >>> ((4 : Int32) &&& 31)) &&& 65535) >>> ((2 : Int32) &&& 31)) / 5 * 5)).2.1 0 = ((w_setWeather σ ((((x2 >>> ((4 : Int32) &&& 31)) &&& 65535) >>> ((2 : Int32) &&& 31)) - (((x2 >>> ((4 : Int32) &&& 31)) &&& 65535) >>> ((2 : Int32) &&& 31)) / 5 * 5)).2.1 0) := rfl
      have hg_229_34 : G ((w_setWeather σ ((((x2 >>> ((4 : Int32) &&& 31)) &&& 65535) >>> ((2 : Int32) &&& 31)) - (((x2 >>> ((4 : Int32) &&& 31)) &&& 65535) >>> ((2 : Int32) &&& 31)) / 5 * 5)).2.1 0) := hJ.gr hJ_229_33 (by omega) hq_229_34
      refine W.widen (k := 26) (n := 3756) (by omega) (by omega) ?_
      exact W.iret (v := ((w_setWeather σ ((((x2 >>> ((4 : Int32) &&& 31)) &&& 65535) >>> ((2 : Int32) &&& 31)) - (((x2 >>> ((4 : Int32) &&& 31)) &&& 65535) >>> ((2 : Int32) &&& 31)) / 5 * 5)).1)) hx hb hr (fun t ht hW => ⟨⟨((w_setWeather σ ((((x2 >>> ((4 : Int32) &&& 31)) &&& 65535) >>> ((2 : Int32) &&& 31)) - (((x2 >>> ((4 : Int32) &&& 31)) &&& 65535) >>> ((2 : Int32) &&& 31)) / 5 * 5)).1), (w_setWeather σ ((((x2 >>> ((4 : Int32) &&& 31)) &&& 65535) >>> ((2 : Int32) &&& 31)) - (((x2 >>> ((4 : Int32) &&& 31)) &&& 65535) >>> ((2 : Int32) &&& 31)) / 5 * 5)).2, rfl, ⟨fun h9 => (hJ.f_setWeather _ h0 (by omega) h9).trans hq, hJ.mono hJ_229_33 (by omega)⟩, by show ft_LW D k Z sz a _ t.heap; rw [ht]; exact hP⟩, hS.F ht⟩) hS.2.2 dL_act_232
    by_cases k_41_10 : (x2 &&& 15) = 10
    · skip
      refine lv_tableIn (tgt := 233) (off := 192) hx hb dL_act_41 (by rw [k_41_10]; decide) (by rw [k_41_10]; decide) (by rw [k_41_10]; rfl) (by decide) ?_
      refine lv_aload_n hx hb dL_act_233 rfl (lv_at hl 3 rfl) ?_
      refine lv_iload_n hx hb dL_act_234 rfl (lv_at hl 2 rfl) ?_
      refine lv_iconst (v := 2) hx hb dL_act_235 (by decide) ?_
      refine lv_ishr hx hb dL_act_236 ?_
      refine lv_bipush (v := 25) hx hb dL_act_237 (by decide) ?_
      refine lv_irem hx hb dL_act_239 (by decide) ?_
      refine va_calli (vx_runSW (As := [.ref (a), .int ((((x2 >>> ((4 : Int32) &&& 31)) &&& 65535) >>> ((2 : Int32) &&& 31)) - (((x2 >>> ((4 : Int32) &&& 31)) &&& 65535) >>> ((2 : Int32) &&& 31)) / 25 * 25)]) (rest := []) ⟨hx, hb, hml, hown, hts⟩ (d_L_advance l hl0 D Z k sz a σ ((((x2 >>> ((4 : Int32) &&& 31)) &&& 65535) >>> ((2 : Int32) &&& 31)) - (((x2 >>> ((4 : Int32) &&& 31)) &&& 65535) >>> ((2 : Int32) &&& 31)) / 25 * 25) (hJ.pm h0) (hJ.ex_advance _ h0 (by omega))) (vx_cwSW 2 hts gL_act_L_advance rfl rfl rfl (by decide +kernel) ⟨Nat.le_of_ble_eq_true rfl, Nat.le_of_ble_eq_true rfl⟩) (ft_preM hEL hz hS hP) rfl rfl hl.1 rfl (lv_room (Nat.le_of_ble_eq_true rfl)) dL_act_240 ⟨Nat.le_of_ble_eq_true rfl, Nat.le_of_ble_eq_true rfl⟩) hS (fun _ _ h => h) (fun _ h => h) (fun z u t H1 locs1 ht hvm hw hB hz1 hk1 hS1 => ?_)
      obtain ⟨rfl, rfl⟩ : z = (w_advance σ ((((x2 >>> ((4 : Int32) &&& 31)) &&& 65535) >>> ((2 : Int32) &&& 31)) - (((x2 >>> ((4 : Int32) &&& 31)) &&& 65535) >>> ((2 : Int32) &&& 31)) / 25 * 25)).1 ∧ u = (w_advance σ ((((x2 >>> ((4 : Int32) &&& 31)) &&& 65535) >>> ((2 : Int32) &&& 31)) - (((x2 >>> ((4 : Int32) &&& 31)) &&& 65535) >>> ((2 : Int32) &&& 31)) / 25 * 25)).2 := ⟨congrArg Prod.fst hw, congrArg Prod.snd hw⟩
      rw [ht] at hB
      have hP := hB
      have hS := hS1
      clear hS1
      generalize H1 = H at hP hS ⊢
      refine W.widen (k := 1) (n := 6) (by omega) (by omega) ?_
      have hJ_240_34 : J (jc0 + 1) (w_advance σ ((((x2 >>> ((4 : Int32) &&& 31)) &&& 65535) >>> ((2 : Int32) &&& 31)) - (((x2 >>> ((4 : Int32) &&& 31)) &&& 65535) >>> ((2 : Int32) &&& 31)) / 25 * 25)).2 := hJ.mono (hJ.k_advance _ h0 (by omega)) (by omega)
      have hq_240_35 : (w_advance σ ((((x2 >>> ((4 : Int32) &&& 31)) &&& 65535) >>> ((2 : Int32) &&& 31)) - (((x2 >>> ((4 : Int32) &&& 31)) &&& 65535) >>> ((2 : Int32) &&& 31)) / 25 * 25)).2.1 0 = ((w_advance σ ((((x2 >>> ((4 : Int32) &&& 31)) &&& 65535) >>> ((2 : Int32) &&& 31)) - (((x2 >>> ((4 : Int32) &&& 31)) &&& 65535) >>> ((2 : Int32) &&& 31)) / 25 * 25)).2.1 0) := rfl
      have hg_240_35 : G ((w_advance σ ((((x2 >>> ((4 : Int32) &&& 31)) &&& 65535) >>> ((2 : Int32) &&& 31)) - (((x2 >>> ((4 : Int32) &&& 31)) &&& 65535) >>> ((2 : Int32) &&& 31)) / 25 * 25)).2.1 0) := hJ.gr hJ_240_34 (by omega) hq_240_35
      refine W.widen (k := 26) (n := 3756) (by omega) (by omega) ?_
      exact W.iret (v := ((w_advance σ ((((x2 >>> ((4 : Int32) &&& 31)) &&& 65535) >>> ((2 : Int32) &&& 31)) - (((x2 >>> ((4 : Int32) &&& 31)) &&& 65535) >>> ((2 : Int32) &&& 31)) / 25 * 25)).1)) hx hb hr (fun t ht hW => ⟨⟨((w_advance σ ((((x2 >>> ((4 : Int32) &&& 31)) &&& 65535) >>> ((2 : Int32) &&& 31)) - (((x2 >>> ((4 : Int32) &&& 31)) &&& 65535) >>> ((2 : Int32) &&& 31)) / 25 * 25)).1), (w_advance σ ((((x2 >>> ((4 : Int32) &&& 31)) &&& 65535) >>> ((2 : Int32) &&& 31)) - (((x2 >>> ((4 : Int32) &&& 31)) &&& 65535) >>> ((2 : Int32) &&& 31)) / 25 * 25)).2, rfl, ⟨fun h9 => (hJ.f_advance _ h0 (by omega) h9).trans hq, hJ.mono hJ_240_34 (by omega)⟩, by show ft_LW D k Z sz a _ t.heap; rw [ht]; exact hP⟩, hS.F ht⟩) hS.2.2 dL_act_243
    by_cases k_41_11 : (x2 &&& 15) = 11
    · skip
      refine lv_tableIn (tgt := 233) (off := 192) hx hb dL_act_41 (by rw [k_41_11]; decide) (by rw [k_41_11]; decide) (by rw [k_41_11]; rfl) (by decide) ?_
      refine lv_aload_n hx hb dL_act_233 rfl (lv_at hl 3 rfl) ?_
      refine lv_iload_n hx hb dL_act_234 rfl (lv_at hl 2 rfl) ?_
      refine lv_iconst (v := 2) hx hb dL_act_235 (by decide) ?_
      refine lv_ishr hx hb dL_act_236 ?_
      refine lv_bipush (v := 25) hx hb dL_act_237 (by decide) ?_
      refine lv_irem hx hb dL_act_239 (by decide) ?_
      refine va_calli (vx_runSW (As := [.ref (a), .int ((((x2 >>> ((4 : Int32) &&& 31)) &&& 65535) >>> ((2 : Int32) &&& 31)) - (((x2 >>> ((4 : Int32) &&& 31)) &&& 65535) >>> ((2 : Int32) &&& 31)) / 25 * 25)]) (rest := []) ⟨hx, hb, hml, hown, hts⟩ (d_L_advance l hl0 D Z k sz a σ ((((x2 >>> ((4 : Int32) &&& 31)) &&& 65535) >>> ((2 : Int32) &&& 31)) - (((x2 >>> ((4 : Int32) &&& 31)) &&& 65535) >>> ((2 : Int32) &&& 31)) / 25 * 25) (hJ.pm h0) (hJ.ex_advance _ h0 (by omega))) (vx_cwSW 2 hts gL_act_L_advance rfl rfl rfl (by decide +kernel) ⟨Nat.le_of_ble_eq_true rfl, Nat.le_of_ble_eq_true rfl⟩) (ft_preM hEL hz hS hP) rfl rfl hl.1 rfl (lv_room (Nat.le_of_ble_eq_true rfl)) dL_act_240 ⟨Nat.le_of_ble_eq_true rfl, Nat.le_of_ble_eq_true rfl⟩) hS (fun _ _ h => h) (fun _ h => h) (fun z u t H1 locs1 ht hvm hw hB hz1 hk1 hS1 => ?_)
      obtain ⟨rfl, rfl⟩ : z = (w_advance σ ((((x2 >>> ((4 : Int32) &&& 31)) &&& 65535) >>> ((2 : Int32) &&& 31)) - (((x2 >>> ((4 : Int32) &&& 31)) &&& 65535) >>> ((2 : Int32) &&& 31)) / 25 * 25)).1 ∧ u = (w_advance σ ((((x2 >>> ((4 : Int32) &&& 31)) &&& 65535) >>> ((2 : Int32) &&& 31)) - (((x2 >>> ((4 : Int32) &&& 31)) &&& 65535) >>> ((2 : Int32) &&& 31)) / 25 * 25)).2 := ⟨congrArg Prod.fst hw, congrArg Prod.snd hw⟩
      rw [ht] at hB
      have hP := hB
      have hS := hS1
      clear hS1
      generalize H1 = H at hP hS ⊢
      refine W.widen (k := 1) (n := 6) (by omega) (by omega) ?_
      have hJ_240_35 : J (jc0 + 1) (w_advance σ ((((x2 >>> ((4 : Int32) &&& 31)) &&& 65535) >>> ((2 : Int32) &&& 31)) - (((x2 >>> ((4 : Int32) &&& 31)) &&& 65535) >>> ((2 : Int32) &&& 31)) / 25 * 25)).2 := hJ.mono (hJ.k_advance _ h0 (by omega)) (by omega)
      have hq_240_36 : (w_advance σ ((((x2 >>> ((4 : Int32) &&& 31)) &&& 65535) >>> ((2 : Int32) &&& 31)) - (((x2 >>> ((4 : Int32) &&& 31)) &&& 65535) >>> ((2 : Int32) &&& 31)) / 25 * 25)).2.1 0 = ((w_advance σ ((((x2 >>> ((4 : Int32) &&& 31)) &&& 65535) >>> ((2 : Int32) &&& 31)) - (((x2 >>> ((4 : Int32) &&& 31)) &&& 65535) >>> ((2 : Int32) &&& 31)) / 25 * 25)).2.1 0) := rfl
      have hg_240_36 : G ((w_advance σ ((((x2 >>> ((4 : Int32) &&& 31)) &&& 65535) >>> ((2 : Int32) &&& 31)) - (((x2 >>> ((4 : Int32) &&& 31)) &&& 65535) >>> ((2 : Int32) &&& 31)) / 25 * 25)).2.1 0) := hJ.gr hJ_240_35 (by omega) hq_240_36
      refine W.widen (k := 26) (n := 3756) (by omega) (by omega) ?_
      exact W.iret (v := ((w_advance σ ((((x2 >>> ((4 : Int32) &&& 31)) &&& 65535) >>> ((2 : Int32) &&& 31)) - (((x2 >>> ((4 : Int32) &&& 31)) &&& 65535) >>> ((2 : Int32) &&& 31)) / 25 * 25)).1)) hx hb hr (fun t ht hW => ⟨⟨((w_advance σ ((((x2 >>> ((4 : Int32) &&& 31)) &&& 65535) >>> ((2 : Int32) &&& 31)) - (((x2 >>> ((4 : Int32) &&& 31)) &&& 65535) >>> ((2 : Int32) &&& 31)) / 25 * 25)).1), (w_advance σ ((((x2 >>> ((4 : Int32) &&& 31)) &&& 65535) >>> ((2 : Int32) &&& 31)) - (((x2 >>> ((4 : Int32) &&& 31)) &&& 65535) >>> ((2 : Int32) &&& 31)) / 25 * 25)).2, rfl, ⟨fun h9 => (hJ.f_advance _ h0 (by omega) h9).trans hq, hJ.mono hJ_240_35 (by omega)⟩, by show ft_LW D k Z sz a _ t.heap; rw [ht]; exact hP⟩, hS.F ht⟩) hS.2.2 dL_act_243
    by_cases k_41_12 : (x2 &&& 15) = 12
    · skip
      refine lv_tableIn (tgt := 233) (off := 192) hx hb dL_act_41 (by rw [k_41_12]; decide) (by rw [k_41_12]; decide) (by rw [k_41_12]; rfl) (by decide) ?_
      refine lv_aload_n hx hb dL_act_233 rfl (lv_at hl 3 rfl) ?_
      refine lv_iload_n hx hb dL_act_234 rfl (lv_at hl 2 rfl) ?_
      refine lv_iconst (v := 2) hx hb dL_act_235 (by decide) ?_
      refine lv_ishr hx hb dL_act_236 ?_
      refine lv_bipush (v := 25) hx hb dL_act_237 (by decide) ?_
      refine lv_irem hx hb dL_act_239 (by decide) ?_
      refine va_calli (vx_runSW (As := [.ref (a), .int ((((x2 >>> ((4 : Int32) &&& 31)) &&& 65535) >>> ((2 : Int32) &&& 31)) - (((x2 >>> ((4 : Int32) &&& 31)) &&& 65535) >>> ((2 : Int32) &&& 31)) / 25 * 25)]) (rest := []) ⟨hx, hb, hml, hown, hts⟩ (d_L_advance l hl0 D Z k sz a σ ((((x2 >>> ((4 : Int32) &&& 31)) &&& 65535) >>> ((2 : Int32) &&& 31)) - (((x2 >>> ((4 : Int32) &&& 31)) &&& 65535) >>> ((2 : Int32) &&& 31)) / 25 * 25) (hJ.pm h0) (hJ.ex_advance _ h0 (by omega))) (vx_cwSW 2 hts gL_act_L_advance rfl rfl rfl (by decide +kernel) ⟨Nat.le_of_ble_eq_true rfl, Nat.le_of_ble_eq_true rfl⟩) (ft_preM hEL hz hS hP) rfl rfl hl.1 rfl (lv_room (Nat.le_of_ble_eq_true rfl)) dL_act_240 ⟨Nat.le_of_ble_eq_true rfl, Nat.le_of_ble_eq_true rfl⟩) hS (fun _ _ h => h) (fun _ h => h) (fun z u t H1 locs1 ht hvm hw hB hz1 hk1 hS1 => ?_)
      obtain ⟨rfl, rfl⟩ : z = (w_advance σ ((((x2 >>> ((4 : Int32) &&& 31)) &&& 65535) >>> ((2 : Int32) &&& 31)) - (((x2 >>> ((4 : Int32) &&& 31)) &&& 65535) >>> ((2 : Int32) &&& 31)) / 25 * 25)).1 ∧ u = (w_advance σ ((((x2 >>> ((4 : Int32) &&& 31)) &&& 65535) >>> ((2 : Int32) &&& 31)) - (((x2 >>> ((4 : Int32) &&& 31)) &&& 65535) >>> ((2 : Int32) &&& 31)) / 25 * 25)).2 := ⟨congrArg Prod.fst hw, congrArg Prod.snd hw⟩
      rw [ht] at hB
      have hP := hB
      have hS := hS1
      clear hS1
      generalize H1 = H at hP hS ⊢
      refine W.widen (k := 1) (n := 6) (by omega) (by omega) ?_
      have hJ_240_36 : J (jc0 + 1) (w_advance σ ((((x2 >>> ((4 : Int32) &&& 31)) &&& 65535) >>> ((2 : Int32) &&& 31)) - (((x2 >>> ((4 : Int32) &&& 31)) &&& 65535) >>> ((2 : Int32) &&& 31)) / 25 * 25)).2 := hJ.mono (hJ.k_advance _ h0 (by omega)) (by omega)
      have hq_240_37 : (w_advance σ ((((x2 >>> ((4 : Int32) &&& 31)) &&& 65535) >>> ((2 : Int32) &&& 31)) - (((x2 >>> ((4 : Int32) &&& 31)) &&& 65535) >>> ((2 : Int32) &&& 31)) / 25 * 25)).2.1 0 = ((w_advance σ ((((x2 >>> ((4 : Int32) &&& 31)) &&& 65535) >>> ((2 : Int32) &&& 31)) - (((x2 >>> ((4 : Int32) &&& 31)) &&& 65535) >>> ((2 : Int32) &&& 31)) / 25 * 25)).2.1 0) := rfl
      have hg_240_37 : G ((w_advance σ ((((x2 >>> ((4 : Int32) &&& 31)) &&& 65535) >>> ((2 : Int32) &&& 31)) - (((x2 >>> ((4 : Int32) &&& 31)) &&& 65535) >>> ((2 : Int32) &&& 31)) / 25 * 25)).2.1 0) := hJ.gr hJ_240_36 (by omega) hq_240_37
      refine W.widen (k := 26) (n := 3756) (by omega) (by omega) ?_
      exact W.iret (v := ((w_advance σ ((((x2 >>> ((4 : Int32) &&& 31)) &&& 65535) >>> ((2 : Int32) &&& 31)) - (((x2 >>> ((4 : Int32) &&& 31)) &&& 65535) >>> ((2 : Int32) &&& 31)) / 25 * 25)).1)) hx hb hr (fun t ht hW => ⟨⟨((w_advance σ ((((x2 >>> ((4 : Int32) &&& 31)) &&& 65535) >>> ((2 : Int32) &&& 31)) - (((x2 >>> ((4 : Int32) &&& 31)) &&& 65535) >>> ((2 : Int32) &&& 31)) / 25 * 25)).1), (w_advance σ ((((x2 >>> ((4 : Int32) &&& 31)) &&& 65535) >>> ((2 : Int32) &&& 31)) - (((x2 >>> ((4 : Int32) &&& 31)) &&& 65535) >>> ((2 : Int32) &&& 31)) / 25 * 25)).2, rfl, ⟨fun h9 => (hJ.f_advance _ h0 (by omega) h9).trans hq, hJ.mono hJ_240_36 (by omega)⟩, by show ft_LW D k Z sz a _ t.heap; rw [ht]; exact hP⟩, hS.F ht⟩) hS.2.2 dL_act_243
    by_cases k_41_13 : (x2 &&& 15) = 13
    · skip
      refine lv_tableIn (tgt := 244) (off := 203) hx hb dL_act_41 (by rw [k_41_13]; decide) (by rw [k_41_13]; decide) (by rw [k_41_13]; rfl) (by decide) ?_
      refine lv_aload_n hx hb dL_act_244 rfl (lv_at hl 3 rfl) ?_
      refine va_gets (C := RL) hx hb hEL.2.2.2.1.1 hS hown (hts (.fieldLink RL 140 "FoodTruckRotaLaw" "SCRIPTS" "[Ljava/lang/String;") (by decide +kernel)) (fun _ h9 => h9) dL_act_245 ?_
      refine lv_iload_n hx hb dL_act_248 rfl (lv_at hl 2 rfl) ?_
      refine va_gets (C := RL) hx hb hEL.2.2.2.1.1 hS hown (hts (.fieldLink RL 140 "FoodTruckRotaLaw" "SCRIPTS" "[Ljava/lang/String;") (by decide +kernel)) (fun _ h9 => h9) dL_act_249 ?_
      refine va_tlen (v := 28) hx hb hEL.2.2.2.1.2.1 hS rfl dL_act_252 ?_
      refine lv_irem hx hb dL_act_253 (by decide) ?_
      have hj_254 : vp_in (((x2 >>> ((4 : Int32) &&& 31)) &&& 65535) - ((x2 >>> ((4 : Int32) &&& 31)) &&& 65535) / 28 * 28) 28 := ft_y28 _
      obtain ⟨cell_254, ha_254, hb_254, hc_254, hd_254, he_254⟩ := ft_tcell hEL.2.2.2.1.2.1 hS hj_254
      refine W.aald (v := .ref (Z 4 (tn (((x2 >>> ((4 : Int32) &&& 31)) &&& 65535) - ((x2 >>> ((4 : Int32) &&& 31)) &&& 65535) / 28 * 28)))) (ty := .object RJ0) hx hb ha_254 hb_254 rfl hc_254 hd_254 he_254 rfl rfl dL_act_254 ?_
      refine W.eq (g2 := F0 m 255 ls [.ref (Z 4 (tn (((x2 >>> ((4 : Int32) &&& 31)) &&& 65535) - ((x2 >>> ((4 : Int32) &&& 31)) &&& 65535) / 28 * 28))), .ref (a)]) rfl ?_
      refine va_callr (va_runS (As := [.ref (a), .ref (Z 4 (tn (((x2 >>> ((4 : Int32) &&& 31)) &&& 65535) - ((x2 >>> ((4 : Int32) &&& 31)) &&& 65535) / 28 * 28)))]) (rest := []) ⟨hx, hb, hml, hown, hts⟩ (c_L_write l hl0 D Z k sz a σ J G T hJ (jc0 + 0) h0 (by omega) r hq (tn (((x2 >>> ((4 : Int32) &&& 31)) &&& 65535) - ((x2 >>> ((4 : Int32) &&& 31)) &&& 65535) / 28 * 28)) (ft_tn hj_254) ) (va_cwS 2 hts gL_act_L_write rfl rfl rfl (by decide +kernel) ⟨Nat.le_of_ble_eq_true rfl, Nat.le_of_ble_eq_true rfl⟩) (ft_preM hEL hz hS hP) rfl rfl hl.1 rfl (lv_room (Nat.le_of_ble_eq_true rfl)) dL_act_255 ⟨Nat.le_of_ble_eq_true rfl, Nat.le_of_ble_eq_true rfl⟩) hS (fun _ _ h => h) (fun _ h => h) (fun u_255_37 ra t H1 locs1 ht hvm hw hB hz1 hk1 hS1 => ?_)
      obtain ⟨hp_u_255_37, hj_u_255_37⟩ := hw
      obtain ⟨hra, hB⟩ := hB
      replace hra := hra.symm
      subst hra
      replace hj_u_255_37 : J (jc0 + 0) u_255_37 := hJ.mono hj_u_255_37 (by omega)
      rw [ht] at hB
      have hP := hB
      have hS := hS1
      clear hS1
      generalize H1 = H at hP hS ⊢
      refine W.widen (k := 25) (n := 3750) (by omega) (by omega) ?_
      have hq_u_255_37 : u_255_37.1 0 = r := (ft_zp.row (hp_u_255_37).1).trans hq
      refine va_calli (vx_runSW (As := [.ref (a)]) (rest := []) ⟨hx, hb, hml, hown, hts⟩ (d_L_runScript l hl0 D Z k sz a u_255_37 (hJ.pm hj_u_255_37) (hJ.ok9 hj_u_255_37) (hJ.g9 hj_u_255_37) (hJ.ex_runScript hj_u_255_37 (by omega))) (vx_cwSW 1 hts gL_act_L_runScript rfl rfl rfl (by decide +kernel) ⟨Nat.le_of_ble_eq_true rfl, Nat.le_of_ble_eq_true rfl⟩) (ft_preM hEL hz hS hP) rfl rfl hl.1 rfl (lv_room (Nat.le_of_ble_eq_true rfl)) dL_act_258 ⟨Nat.le_of_ble_eq_true rfl, Nat.le_of_ble_eq_true rfl⟩) hS (fun _ _ h => h) (fun _ h => h) (fun z u t H1 locs1 ht hvm hw hB hz1 hk1 hS1 => ?_)
      obtain ⟨rfl, rfl⟩ : z = (w_runScript u_255_37).1 ∧ u = (w_runScript u_255_37).2 := ⟨congrArg Prod.fst hw, congrArg Prod.snd hw⟩
      rw [ht] at hB
      have hP := hB
      have hS := hS1
      clear hS1
      generalize H1 = H at hP hS ⊢
      refine W.widen (k := 26) (n := 3756) (by omega) (by omega) ?_
      have hJ_258_38 : J (jc0 + 1) (w_runScript u_255_37).2 := hJ.mono (hJ.k_runScript hj_u_255_37 (by omega)) (by omega)
      have hq_258_39 : (w_runScript u_255_37).2.1 0 = ((w_runScript u_255_37).2.1 0) := rfl
      have hg_258_39 : G ((w_runScript u_255_37).2.1 0) := hJ.gr hJ_258_38 (by omega) hq_258_39
      refine W.widen (k := 26) (n := 3756) (by omega) (by omega) ?_
      exact W.iret (v := ((w_runScript u_255_37).1)) hx hb hr (fun t ht hW => ⟨⟨((w_runScript u_255_37).1), (w_runScript u_255_37).2, rfl, ⟨fun h9 => (hJ.f_runScript hj_u_255_37 (by omega) h9).trans hq_u_255_37, hJ.mono hJ_258_38 (by omega)⟩, by show ft_LW D k Z sz a _ t.heap; rw [ht]; exact hP⟩, hS.F ht⟩) hS.2.2 dL_act_261
    by_cases k_41_14 : (x2 &&& 15) = 14
    · skip
      refine lv_tableIn (tgt := 244) (off := 203) hx hb dL_act_41 (by rw [k_41_14]; decide) (by rw [k_41_14]; decide) (by rw [k_41_14]; rfl) (by decide) ?_
      refine lv_aload_n hx hb dL_act_244 rfl (lv_at hl 3 rfl) ?_
      refine va_gets (C := RL) hx hb hEL.2.2.2.1.1 hS hown (hts (.fieldLink RL 140 "FoodTruckRotaLaw" "SCRIPTS" "[Ljava/lang/String;") (by decide +kernel)) (fun _ h9 => h9) dL_act_245 ?_
      refine lv_iload_n hx hb dL_act_248 rfl (lv_at hl 2 rfl) ?_
      refine va_gets (C := RL) hx hb hEL.2.2.2.1.1 hS hown (hts (.fieldLink RL 140 "FoodTruckRotaLaw" "SCRIPTS" "[Ljava/lang/String;") (by decide +kernel)) (fun _ h9 => h9) dL_act_249 ?_
      refine va_tlen (v := 28) hx hb hEL.2.2.2.1.2.1 hS rfl dL_act_252 ?_
      refine lv_irem hx hb dL_act_253 (by decide) ?_
      have hj_254 : vp_in (((x2 >>> ((4 : Int32) &&& 31)) &&& 65535) - ((x2 >>> ((4 : Int32) &&& 31)) &&& 65535) / 28 * 28) 28 := ft_y28 _
      obtain ⟨cell_254, ha_254, hb_254, hc_254, hd_254, he_254⟩ := ft_tcell hEL.2.2.2.1.2.1 hS hj_254
      refine W.aald (v := .ref (Z 4 (tn (((x2 >>> ((4 : Int32) &&& 31)) &&& 65535) - ((x2 >>> ((4 : Int32) &&& 31)) &&& 65535) / 28 * 28)))) (ty := .object RJ0) hx hb ha_254 hb_254 rfl hc_254 hd_254 he_254 rfl rfl dL_act_254 ?_
      refine W.eq (g2 := F0 m 255 ls [.ref (Z 4 (tn (((x2 >>> ((4 : Int32) &&& 31)) &&& 65535) - ((x2 >>> ((4 : Int32) &&& 31)) &&& 65535) / 28 * 28))), .ref (a)]) rfl ?_
      refine va_callr (va_runS (As := [.ref (a), .ref (Z 4 (tn (((x2 >>> ((4 : Int32) &&& 31)) &&& 65535) - ((x2 >>> ((4 : Int32) &&& 31)) &&& 65535) / 28 * 28)))]) (rest := []) ⟨hx, hb, hml, hown, hts⟩ (c_L_write l hl0 D Z k sz a σ J G T hJ (jc0 + 0) h0 (by omega) r hq (tn (((x2 >>> ((4 : Int32) &&& 31)) &&& 65535) - ((x2 >>> ((4 : Int32) &&& 31)) &&& 65535) / 28 * 28)) (ft_tn hj_254) ) (va_cwS 2 hts gL_act_L_write rfl rfl rfl (by decide +kernel) ⟨Nat.le_of_ble_eq_true rfl, Nat.le_of_ble_eq_true rfl⟩) (ft_preM hEL hz hS hP) rfl rfl hl.1 rfl (lv_room (Nat.le_of_ble_eq_true rfl)) dL_act_255 ⟨Nat.le_of_ble_eq_true rfl, Nat.le_of_ble_eq_true rfl⟩) hS (fun _ _ h => h) (fun _ h => h) (fun u_255_39 ra t H1 locs1 ht hvm hw hB hz1 hk1 hS1 => ?_)
      obtain ⟨hp_u_255_39, hj_u_255_39⟩ := hw
      obtain ⟨hra, hB⟩ := hB
      replace hra := hra.symm
      subst hra
      replace hj_u_255_39 : J (jc0 + 0) u_255_39 := hJ.mono hj_u_255_39 (by omega)
      rw [ht] at hB
      have hP := hB
      have hS := hS1
      clear hS1
      generalize H1 = H at hP hS ⊢
      refine W.widen (k := 25) (n := 3750) (by omega) (by omega) ?_
      have hq_u_255_39 : u_255_39.1 0 = r := (ft_zp.row (hp_u_255_39).1).trans hq
      refine va_calli (vx_runSW (As := [.ref (a)]) (rest := []) ⟨hx, hb, hml, hown, hts⟩ (d_L_runScript l hl0 D Z k sz a u_255_39 (hJ.pm hj_u_255_39) (hJ.ok9 hj_u_255_39) (hJ.g9 hj_u_255_39) (hJ.ex_runScript hj_u_255_39 (by omega))) (vx_cwSW 1 hts gL_act_L_runScript rfl rfl rfl (by decide +kernel) ⟨Nat.le_of_ble_eq_true rfl, Nat.le_of_ble_eq_true rfl⟩) (ft_preM hEL hz hS hP) rfl rfl hl.1 rfl (lv_room (Nat.le_of_ble_eq_true rfl)) dL_act_258 ⟨Nat.le_of_ble_eq_true rfl, Nat.le_of_ble_eq_true rfl⟩) hS (fun _ _ h => h) (fun _ h => h) (fun z u t H1 locs1 ht hvm hw hB hz1 hk1 hS1 => ?_)
      obtain ⟨rfl, rfl⟩ : z = (w_runScript u_255_39).1 ∧ u = (w_runScript u_255_39).2 := ⟨congrArg Prod.fst hw, congrArg Prod.snd hw⟩
      rw [ht] at hB
      have hP := hB
      have hS := hS1
      clear hS1
      generalize H1 = H at hP hS ⊢
      refine W.widen (k := 26) (n := 3756) (by omega) (by omega) ?_
      have hJ_258_40 : J (jc0 + 1) (w_runScript u_255_39).2 := hJ.mono (hJ.k_runScript hj_u_255_39 (by omega)) (by omega)
      have hq_258_41 : (w_runScript u_255_39).2.1 0 = ((w_runScript u_255_39).2.1 0) := rfl
      have hg_258_41 : G ((w_runScript u_255_39).2.1 0) := hJ.gr hJ_258_40 (by omega) hq_258_41
      refine W.widen (k := 26) (n := 3756) (by omega) (by omega) ?_
      exact W.iret (v := ((w_runScript u_255_39).1)) hx hb hr (fun t ht hW => ⟨⟨((w_runScript u_255_39).1), (w_runScript u_255_39).2, rfl, ⟨fun h9 => (hJ.f_runScript hj_u_255_39 (by omega) h9).trans hq_u_255_39, hJ.mono hJ_258_40 (by omega)⟩, by show ft_LW D k Z sz a _ t.heap; rw [ht]; exact hP⟩, hS.F ht⟩) hS.2.2 dL_act_261
    have j_41_0 : (x2 &&& 15).toInt ≠ 0 := ft_ne k_41_0
    have j_41_1 : (x2 &&& 15).toInt ≠ 1 := ft_ne k_41_1
    have j_41_2 : (x2 &&& 15).toInt ≠ 2 := ft_ne k_41_2
    have j_41_3 : (x2 &&& 15).toInt ≠ 3 := ft_ne k_41_3
    have j_41_4 : (x2 &&& 15).toInt ≠ 4 := ft_ne k_41_4
    have j_41_5 : (x2 &&& 15).toInt ≠ 5 := ft_ne k_41_5
    have j_41_6 : (x2 &&& 15).toInt ≠ 6 := ft_ne k_41_6
    have j_41_7 : (x2 &&& 15).toInt ≠ 7 := ft_ne k_41_7
    have j_41_8 : (x2 &&& 15).toInt ≠ 8 := ft_ne k_41_8
    have j_41_9 : (x2 &&& 15).toInt ≠ 9 := ft_ne k_41_9
    have j_41_10 : (x2 &&& 15).toInt ≠ 10 := ft_ne k_41_10
    have j_41_11 : (x2 &&& 15).toInt ≠ 11 := ft_ne k_41_11
    have j_41_12 : (x2 &&& 15).toInt ≠ 12 := ft_ne k_41_12
    have j_41_13 : (x2 &&& 15).toInt ≠ 13 := ft_ne k_41_13
    have j_41_14 : (x2 &&& 15).toInt ≠ 14 := ft_ne k_41_14
    refine lv_tableOut (tgt := 262) hx hb dL_act_41 (by omega) (by decide) ?_
    refine lv_iload_n hx hb dL_act_262 rfl (lv_at hl 2 rfl) ?_
    refine lv_iconst (v := 3) hx hb dL_act_263 (by decide) ?_
    refine lv_iand hx hb dL_act_264 ?_
    refine lv_if_ne (tgt := 275) hx hb dL_act_265 (by decide) (fun c_265 => ?_) (fun c_265 => ?_)
    · skip
      refine lv_iload_n hx hb dL_act_275 rfl (lv_at hl 2 rfl) ?_
      refine lv_iconst (v := 3) hx hb dL_act_276 (by decide) ?_
      refine lv_iand hx hb dL_act_277 ?_
      refine lv_iconst (v := 1) hx hb dL_act_278 (by decide) ?_
      refine lv_icmp_ne (tgt := 289) hx hb dL_act_279 (by decide) (fun c_279 => ?_) (fun c_279 => ?_)
      · skip
        refine lv_aload_n hx hb dL_act_289 rfl (lv_at hl 3 rfl) ?_
        refine va_calli (vx_runSW (As := [.ref (a)]) (rest := []) ⟨hx, hb, hml, hown, hts⟩ (d_L_undo l hl0 D Z k sz a σ (hJ.pm h0) (hJ.ex_undo h0 (by omega))) (vx_cwSW 1 hts gL_act_L_undo rfl rfl rfl (by decide +kernel) ⟨Nat.le_of_ble_eq_true rfl, Nat.le_of_ble_eq_true rfl⟩) (ft_preM hEL hz hS hP) rfl rfl hl.1 rfl (lv_room (Nat.le_of_ble_eq_true rfl)) dL_act_290 ⟨Nat.le_of_ble_eq_true rfl, Nat.le_of_ble_eq_true rfl⟩) hS (fun _ _ h => h) (fun _ h => h) (fun z u t H1 locs1 ht hvm hw hB hz1 hk1 hS1 => ?_)
        obtain ⟨rfl, rfl⟩ : z = (w_undo σ).1 ∧ u = (w_undo σ).2 := ⟨congrArg Prod.fst hw, congrArg Prod.snd hw⟩
        rw [ht] at hB
        have hP := hB
        have hS := hS1
        clear hS1
        generalize H1 = H at hP hS ⊢
        refine W.widen (k := 1) (n := 6) (by omega) (by omega) ?_
        have hJ_290_41 : J (jc0 + 0) (w_undo σ).2 := hJ.mono (hJ.k_undo h0 (by omega)) (by omega)
        have hq_290_42 : (w_undo σ).2.1 0 = ((w_undo σ).2.1 0) := rfl
        have hg_290_42 : G ((w_undo σ).2.1 0) := hJ.gr hJ_290_41 (by omega) hq_290_42
        refine W.widen (k := 26) (n := 3756) (by omega) (by omega) ?_
        exact W.iret (v := ((w_undo σ).1)) hx hb hr (fun t ht hW => ⟨⟨((w_undo σ).1), (w_undo σ).2, rfl, ⟨fun h9 => (hJ.f_undo h0 (by omega) h9).trans hq, hJ.mono hJ_290_41 (by omega)⟩, by show ft_LW D k Z sz a _ t.heap; rw [ht]; exact hP⟩, hS.F ht⟩) hS.2.2 dL_act_293
      · skip
        refine lv_aload_n hx hb dL_act_282 rfl (lv_at hl 3 rfl) ?_
        refine va_calli (vx_runSW (As := [.ref (a)]) (rest := []) ⟨hx, hb, hml, hown, hts⟩ (d_L_restore l hl0 D Z k sz a σ  (hJ.ex_restore h0 (by omega))) (vx_cwSW 1 hts gL_act_L_restore rfl rfl rfl (by decide +kernel) ⟨Nat.le_of_ble_eq_true rfl, Nat.le_of_ble_eq_true rfl⟩) (ft_preM hEL hz hS hP) rfl rfl hl.1 rfl (lv_room (Nat.le_of_ble_eq_true rfl)) dL_act_283 ⟨Nat.le_of_ble_eq_true rfl, Nat.le_of_ble_eq_true rfl⟩) hS (fun _ _ h => h) (fun _ h => h) (fun z u t H1 locs1 ht hvm hw hB hz1 hk1 hS1 => ?_)
        obtain ⟨rfl, rfl⟩ : z = (w_restore σ).1 ∧ u = (w_restore σ).2 := ⟨congrArg Prod.fst hw, congrArg Prod.snd hw⟩
        rw [ht] at hB
        have hP := hB
        have hS := hS1
        clear hS1
        generalize H1 = H at hP hS ⊢
        refine W.widen (k := 1) (n := 6) (by omega) (by omega) ?_
        have hJ_283_42 : J (jc0 + 0) (w_restore σ).2 := hJ.mono (hJ.k_restore h0 (by omega)) (by omega)
        have hq_283_43 : (w_restore σ).2.1 0 = ((w_restore σ).2.1 0) := rfl
        have hg_283_43 : G ((w_restore σ).2.1 0) := hJ.gr hJ_283_42 (by omega) hq_283_43
        refine lv_goto (tgt := 293) hx hb dL_act_286 (by decide) ?_
        refine W.widen (k := 26) (n := 3756) (by omega) (by omega) ?_
        exact W.iret (v := ((w_restore σ).1)) hx hb hr (fun t ht hW => ⟨⟨((w_restore σ).1), (w_restore σ).2, rfl, ⟨fun h9 => (hJ.f_restore h0 (by omega) h9).trans hq, hJ.mono hJ_283_42 (by omega)⟩, by show ft_LW D k Z sz a _ t.heap; rw [ht]; exact hP⟩, hS.F ht⟩) hS.2.2 dL_act_293
    · skip
      refine lv_aload_n hx hb dL_act_268 rfl (lv_at hl 3 rfl) ?_
      refine va_calli (va_runV (As := []) (rest := []) ⟨hx, hb, hml, hown, hts⟩ (cl_save l D Z k sz a σ) (cwV 0 hts gL_act_X7_save rfl rfl rfl (by decide +kernel) ⟨Nat.le_of_ble_eq_true rfl, Nat.le_of_ble_eq_true rfl⟩) (ft_preL hE hz hS hP) rfl rfl hl.1 rfl (lv_room (Nat.le_of_ble_eq_true rfl)) dL_act_269 ⟨Nat.le_of_ble_eq_true rfl, Nat.le_of_ble_eq_true rfl⟩) hS (fun _ _ h => h) (fun _ h => h) (fun z u t H1 locs1 ht hvm hw hB hz1 hk1 hS1 => ?_)
      obtain ⟨rfl, rfl⟩ : z = (l_save σ).1 ∧ u = (l_save σ).2 := ⟨congrArg Prod.fst hw, congrArg Prod.snd hw⟩
      rw [ht] at hB
      have hP := hB
      have hS := hS1
      clear hS1
      generalize H1 = H at hP hS ⊢
      refine W.widen (k := 0) (n := 0) (by omega) (by omega) ?_
      have hJ_269_43 : J (jc0 + 0) (l_save σ).2 := hJ.mono (hJ.k_save h0 (by omega)) (by omega)
      have hq_269_44 : (l_save σ).2.1 0 = ((l_save σ).2.1 0) := rfl
      have hg_269_44 : G ((l_save σ).2.1 0) := hJ.gr hJ_269_43 (by omega) hq_269_44
      refine lv_goto (tgt := 293) hx hb dL_act_272 (by decide) ?_
      refine W.widen (k := 26) (n := 3756) (by omega) (by omega) ?_
      exact W.iret (v := ((l_save σ).1)) hx hb hr (fun t ht hW => ⟨⟨((l_save σ).1), (l_save σ).2, rfl, ⟨fun _ => (hJ.r_save).trans hq, hJ.mono hJ_269_43 (by omega)⟩, by show ft_LW D k Z sz a _ t.heap; rw [ht]; exact hP⟩, hS.F ht⟩) hS.2.2 dL_act_293

set_option maxHeartbeats 4000000 in
set_option maxRecDepth 100000 in
theorem c_L_isPassing (l : Launch) (hl0 : l.stackTraces = false) (D : va_G) (Z : Nat → Nat → Nat) (k : Nat → ClassId) (sz : ft_SZ) (a : Nat) (σ : ft_Sg) (J : Nat → ft_Sg → Prop) (G : (Nat → Int32) → Prop) (T : Nat → Nat → ft_Sg → Prop) (hJ : ft_JJ J G T) (jc0 : Nat) (h0 : J jc0 σ) (hc : jc0 + 2 ≤ 1000) (r : Nat → Int32) (hq : σ.1 0 = r) (x2 : Int32) (hm : 1 ≤ x2 ∧ x2 ≤ 60) : Met l yL_isPassing wsL_isPassing ({ frames := 12, cells := 2626, slots := 36488, locals := 277 }) (ft_PM D k Z sz a σ [.ref a, .int x2]) (ft_QR J D k Z sz a (jc0 + 2) (fun z u => z = 1 ∧ u.1 0 = σ.1 0 ∧ ft_zv σ u)) 2626 36488 (ft_AL sz) := by
  refine Met.ofW (cc := cL_isPassing) (maxL := 15) (ret := (some .boolean)) (by decide) rfl ?_
  intro p e s m args below meth c s₁ B hml hv
  obtain ⟨hargs, hP, hEL, hz⟩ := hv
  have hE := hEL.1
  subst hargs
  have hx := B.exec
  have hb := B.bytes
  have hr := B.returns
  have hts := atoms_spec (ws := wsL_isPassing) B.pre
  have hown : s.vm.findClass RL = some m.cls := findClass_of_methodNamed B.named
  have hlocks := B.notSynchronized
  have hS : va_S (ft_AL sz) s.heap s.heap [] := va_S.rf
  have hg : G r := hJ.gr h0 (by omega) hq
  have hl := lv_entry ([.ref a, .int x2]) (n := 15) (Nat.le_of_ble_eq_true rfl)
  rw [lg_entry_eq]
  generalize (lg_sl ([.ref a, .int x2]) ++ List.replicate (15 - (lg_sl ([.ref a, .int x2])).length) Slot.unset).toArray = ls at hl ⊢
  have hl : lv_has ls 15 [(0, .ref (a)), (1, .int (x2))] := hl
  refine lv_aload_n hx hb dL_isPassing_0 rfl (lv_at hl 0 rfl) ?_
  refine va_calll (va_runS (As := [.ref (a)]) (rest := []) ⟨hx, hb, hml, hown, hts⟩ (c_L_digest l hl0 D Z k sz a σ r hq (hJ.dN hg) (hJ.dT hg) (hJ.dQ hg) (hJ.dW hg)) (va_cwS 1 hts gL_isPassing_L_digest rfl rfl rfl (by decide +kernel) ⟨Nat.le_of_ble_eq_true rfl, Nat.le_of_ble_eq_true rfl⟩) (ft_preM hEL hz hS hP) rfl rfl hl.1 rfl (lv_room (Nat.le_of_ble_eq_true rfl)) dL_isPassing_1 ⟨Nat.le_of_ble_eq_true rfl, Nat.le_of_ble_eq_true rfl⟩) hS (fun _ _ h => h) (fun _ h => h) (fun z u t H1 locs1 ht hvm hw hB hz1 hk1 hS1 => ?_)
  obtain rfl : z = (s_L_digest r) := hw
  rw [ht] at hB
  have hP := hB
  have hS := hS1
  clear hS1
  generalize H1 = H at hP hS ⊢
  refine W.widen (k := 431) (n := 2586) (by omega) (by omega) ?_
  refine lv_lstore_n (lv' := [(2, .long (s_L_digest r)), (0, .ref (a)), (1, .int (x2))]) hx hb dL_isPassing_4 rfl hl (by decide) rfl (fun ls hl => ?_)
  refine lv_aload_n hx hb dL_isPassing_5 rfl (lv_at hl 1 rfl) ?_
  refine lv_iload_n hx hb dL_isPassing_6 rfl (lv_at hl 2 rfl) ?_
  refine va_calli (va_runV (As := [.int (x2)]) (rest := []) ⟨hx, hb, hml, hown, hts⟩ (ft_noXs (z := (ft_pz r x2)) (cl_servedWithin l hl0 D Z k sz a σ x2 ) (hJ.sw h0 (by omega) hm hq)) (cwV 1 hts gL_isPassing_X7_servedWithin rfl rfl rfl (by decide +kernel) ⟨Nat.le_of_ble_eq_true rfl, Nat.le_of_ble_eq_true rfl⟩) (ft_preL hE hz hS hP) rfl rfl hl.1 rfl (lv_room (Nat.le_of_ble_eq_true rfl)) dL_isPassing_7 ⟨Nat.le_of_ble_eq_true rfl, Nat.le_of_ble_eq_true rfl⟩) hS (fun _ _ h => h) (fun _ h => h) (fun z u t H1 locs1 ht hvm hw hB hz1 hk1 hS1 => ?_)
  obtain ⟨rfl, rfl⟩ : z = (ft_pz r x2) ∧ u = (l_servedWithin σ x2).2 := ⟨congrArg Prod.fst hw, congrArg Prod.snd hw⟩
  rw [ht] at hB
  have hP := hB
  have hS := hS1
  clear hS1
  generalize H1 = H at hP hS ⊢
  refine W.widen (k := 432) (n := 2592) (by omega) (by omega) ?_
  have hJ_7_0 : J (jc0 + 1) (l_servedWithin σ x2).2 := hJ.mono (hJ.k_servedWithin _ h0 (by omega)) (by omega)
  have hq_7_1 : (l_servedWithin σ x2).2.1 0 = r := (hJ.r_servedWithin _).trans hq
  have hv_7 : ft_zv σ ((l_servedWithin σ x2).2) := hJ.sv_servedWithin _
  refine lv_istore (lv' := [(4, .int ((ft_pz r x2))), (2, .long (s_L_digest r)), (0, .ref (a)), (1, .int (x2))]) hx hb dL_isPassing_10 hl (by decide) rfl (fun ls hl => ?_)
  refine lv_aload_n hx hb dL_isPassing_12 rfl (lv_at hl 2 rfl) ?_
  refine vp_callSi (va_Run.run (va_runV (As := []) (rest := []) ⟨hx, hb, hml, hown, hts⟩ (cl_servedTotal l D Z k sz a ((l_servedWithin σ x2).2)) (cwV 0 hts gL_isPassing_X7_servedTotal rfl rfl rfl (by decide +kernel) ⟨Nat.le_of_ble_eq_true rfl, Nat.le_of_ble_eq_true rfl⟩) (ft_preL hE hz hS hP) rfl rfl hl.1 rfl (lv_room (Nat.le_of_ble_eq_true rfl)) dL_isPassing_13 ⟨Nat.le_of_ble_eq_true rfl, Nat.le_of_ble_eq_true rfl⟩)) (fun z hz9 => ?_)
  replace hz9 : z = l_servedTotal (ft_nr r) := hz9.trans (ft_ev (f := fun q9 => l_servedTotal (ft_nr q9)) hq_7_1 rfl)
  subst hz9
  refine lv_istore (lv' := [(5, .int ((l_servedTotal (ft_nr r)))), (4, .int ((ft_pz r x2))), (2, .long (s_L_digest r)), (0, .ref (a)), (1, .int (x2))]) hx hb dL_isPassing_16 hl (by decide) rfl (fun ls hl => ?_)
  refine lv_aload_n hx hb dL_isPassing_18 rfl (lv_at hl 3 rfl) ?_
  refine vp_callSi (va_Run.run (va_runV (As := []) (rest := []) ⟨hx, hb, hml, hown, hts⟩ (cl_arrivedTotal l D Z k sz a ((l_servedWithin σ x2).2)) (cwV 0 hts gL_isPassing_X7_arrivedTotal rfl rfl rfl (by decide +kernel) ⟨Nat.le_of_ble_eq_true rfl, Nat.le_of_ble_eq_true rfl⟩) (ft_preL hE hz hS hP) rfl rfl hl.1 rfl (lv_room (Nat.le_of_ble_eq_true rfl)) dL_isPassing_19 ⟨Nat.le_of_ble_eq_true rfl, Nat.le_of_ble_eq_true rfl⟩)) (fun z hz9 => ?_)
  replace hz9 : z = l_arrivedTotal (ft_nr r) := hz9.trans (ft_ev (f := fun q9 => l_arrivedTotal (ft_nr q9)) hq_7_1 rfl)
  subst hz9
  refine lv_istore (lv' := [(6, .int ((l_arrivedTotal (ft_nr r)))), (5, .int ((l_servedTotal (ft_nr r)))), (4, .int ((ft_pz r x2))), (2, .long (s_L_digest r)), (0, .ref (a)), (1, .int (x2))]) hx hb dL_isPassing_22 hl (by decide) rfl (fun ls hl => ?_)
  refine lv_iconst (v := 0) hx hb dL_isPassing_24 (by decide) ?_
  refine lv_istore (lv' := [(7, .int (0)), (6, .int ((l_arrivedTotal (ft_nr r)))), (5, .int ((l_servedTotal (ft_nr r)))), (4, .int ((ft_pz r x2))), (2, .long (s_L_digest r)), (0, .ref (a)), (1, .int (x2))]) hx hb dL_isPassing_25 hl (by decide) rfl (fun ls hl => ?_)
  refine lv_bipush (v := 60) hx hb dL_isPassing_27 (by decide) ?_
  refine lv_aload_n hx hb dL_isPassing_29 rfl (lv_at hl 5 rfl) ?_
  refine vp_callSi (va_Run.run (va_runV (As := []) (rest := [.int (60)]) ⟨hx, hb, hml, hown, hts⟩ (cl_day l D Z k sz a ((l_servedWithin σ x2).2)) (cwV 0 hts gL_isPassing_X7_day rfl rfl rfl (by decide +kernel) ⟨Nat.le_of_ble_eq_true rfl, Nat.le_of_ble_eq_true rfl⟩) (ft_preL hE hz hS hP) rfl rfl hl.1 rfl (lv_room (Nat.le_of_ble_eq_true rfl)) dL_isPassing_30 ⟨Nat.le_of_ble_eq_true rfl, Nat.le_of_ble_eq_true rfl⟩)) (fun z hz9 => ?_)
  replace hz9 : z = l_day (ft_nr r) := hz9.trans (ft_ev (f := fun q9 => l_day (ft_nr q9)) hq_7_1 rfl)
  subst hz9
  refine lv_imul hx hb dL_isPassing_33 ?_
  refine lv_aload_n hx hb dL_isPassing_34 rfl (lv_at hl 5 rfl) ?_
  refine vp_callSi (va_Run.run (va_runV (As := []) (rest := [.int (60 * (l_day (ft_nr r)))]) ⟨hx, hb, hml, hown, hts⟩ (cl_minute l D Z k sz a ((l_servedWithin σ x2).2)) (cwV 0 hts gL_isPassing_X7_minute rfl rfl rfl (by decide +kernel) ⟨Nat.le_of_ble_eq_true rfl, Nat.le_of_ble_eq_true rfl⟩) (ft_preL hE hz hS hP) rfl rfl hl.1 rfl (lv_room (Nat.le_of_ble_eq_true rfl)) dL_isPassing_35 ⟨Nat.le_of_ble_eq_true rfl, Nat.le_of_ble_eq_true rfl⟩)) (fun z hz9 => ?_)
  replace hz9 : z = l_minute (ft_nr r) := hz9.trans (ft_ev (f := fun q9 => l_minute (ft_nr q9)) hq_7_1 rfl)
  subst hz9
  refine lv_iadd hx hb dL_isPassing_38 ?_
  refine lv_istore (lv' := [(8, .int ((60 * (l_day (ft_nr r))) + (l_minute (ft_nr r)))), (7, .int (0)), (6, .int ((l_arrivedTotal (ft_nr r)))), (5, .int ((l_servedTotal (ft_nr r)))), (4, .int ((ft_pz r x2))), (2, .long (s_L_digest r)), (0, .ref (a)), (1, .int (x2))]) hx hb dL_isPassing_39 hl (by decide) rfl (fun ls hl => ?_)
  refine lv_iconst (v := 4) hx hb dL_isPassing_41 (by decide) ?_
  have hP0 := hP
  have hS0 := hS
  obtain ⟨b1, hb1⟩ : ∃ b : Nat, H.size = b := ⟨_, rfl⟩
  refine va_newaK (atype := .int) (N := 4) (g := F0 m 42 ls [.int (4)]) hx hb (hts (.arrayClass .int) (by decide +kernel)) rfl dL_isPassing_42 rfl (by decide) (by decide) (by decide) (Nat.le_of_ble_eq_true rfl) (Nat.le_of_ble_eq_true rfl) hb1 (fun H1 cA e1a e2a e3a e4a e5a => ?_)
  obtain rfl : cA = k 0 := Option.some.inj (e5a.symm.trans (hE.1.1.2 0 _ rfl).2)
  replace hS := ft_nwS hS hb1 e2a e3a
  replace hP := hP.kept (fun q hq9 => e3a q (by omega))
  refine W.eq (g2 := F0 m 44 ls [.ref (b1)]) rfl ?_
  refine W.widen (k := 433) (n := 2596) (by omega) (by omega) ?_
  refine lv_astore (lv' := [(9, .ref (b1)), (8, .int ((60 * (l_day (ft_nr r))) + (l_minute (ft_nr r)))), (7, .int (0)), (6, .int ((l_arrivedTotal (ft_nr r)))), (5, .int ((l_servedTotal (ft_nr r)))), (4, .int ((ft_pz r x2))), (2, .long (s_L_digest r)), (0, .ref (a)), (1, .int (x2))]) hx hb dL_isPassing_44 hl (by decide) rfl (fun ls hl => ?_)
  refine lv_iconst (v := 4) hx hb dL_isPassing_46 (by decide) ?_
  obtain ⟨b2, hb2⟩ : ∃ b : Nat, H1.size = b := ⟨_, rfl⟩
  refine va_newaK (atype := .int) (N := 4) (g := F0 m 47 ls [.int (4)]) hx hb (hts (.arrayClass .int) (by decide +kernel)) rfl dL_isPassing_47 rfl (by decide) (by decide) (by decide) (Nat.le_of_ble_eq_true rfl) (Nat.le_of_ble_eq_true rfl) hb2 (fun H2 cA e1b e2b e3b e4b e5b => ?_)
  obtain rfl : cA = k 0 := Option.some.inj (e5b.symm.trans (hE.1.1.2 0 _ rfl).2)
  replace hS := ft_nwS hS hb2 e2b e3b
  have hP := (hP0.to2 (b1 := b1) (b2 := b2) (by omega) (by omega)).kept (fun q hq9 => (e3b q (by omega)).trans (e3a q (by omega)))
  have hA : ft_ia k b1 b2 (fun _ => 0) (fun _ => 0) s.heap.size H2 := ⟨(e3b b1 (by omega)).trans e1a, e1b, by omega, by have := hS0.1; omega, by have := hS0.1; omega⟩
  have hEL2 := hEL.narrow (B := ft_AL (ft_s2 sz b1 b2)) (fun q h => ft_AL2_le h)
  clear hP0 hS0 e1a e2a e3a e4a e5a e1b e2b e3b e4b e5b hb1 hb2
  generalize H2 = H at hP hS hA ⊢
  refine W.eq (g2 := F0 m 49 ls [.ref (b2)]) rfl ?_
  refine W.widen (k := 434) (n := 2600) (by omega) (by omega) ?_
  refine lv_astore (lv' := [(10, .ref (b2)), (9, .ref (b1)), (8, .int ((60 * (l_day (ft_nr r))) + (l_minute (ft_nr r)))), (7, .int (0)), (6, .int ((l_arrivedTotal (ft_nr r)))), (5, .int ((l_servedTotal (ft_nr r)))), (4, .int ((ft_pz r x2))), (2, .long (s_L_digest r)), (0, .ref (a)), (1, .int (x2))]) hx hb dL_isPassing_49 hl (by decide) rfl (fun ls hl => ?_)
  refine lv_iconst (v := 0) hx hb dL_isPassing_51 (by decide) ?_
  refine lv_istore (lv' := [(11, .int (0)), (10, .ref (b2)), (9, .ref (b1)), (8, .int ((60 * (l_day (ft_nr r))) + (l_minute (ft_nr r)))), (7, .int (0)), (6, .int ((l_arrivedTotal (ft_nr r)))), (5, .int ((l_servedTotal (ft_nr r)))), (4, .int ((ft_pz r x2))), (2, .long (s_L_digest r)), (0, .ref (a)), (1, .int (x2))]) hx hb dL_isPassing_52 hl (by decide) rfl (fun ls hl => ?_)
  have loop_54 : ∀ (hKx : ∀ (y11_54 : Int32) (g1_54 g2_54 : Nat → Int32) (i_54 : Nat) (hi_54 : y11_54 = nI i_54) (hm_54 : i_54 ≤ tn 4) (hx_54 : i_54 = tn 4) (hv_54 : (∀ j, j < i_54 → g1_54 j = p_soldPortions (ft_nr r) (nI j)) ∧ (∀ j, j < i_54 → g2_54 j = ft_up (fun z => p_stock (ft_nr r) z (nI j)) 0 (tn (l_truckCount (ft_nr r)))) ∧ (∀ j, i_54 ≤ j → g2_54 j = 0)) (H : Heap) (locs : List Loc) (hP : ft_LW D k Z (ft_s2 sz b1 b2) a ((l_servedWithin σ x2).2) H) (hS : va_S (ft_AL sz) s.heap H locs) (hA : ft_ia k b1 b2 g1_54 g2_54 s.heap.size H) (ls : Array Slot) (hl : lv_has ls 15 [(0, .ref (a)), (1, .int (x2)), (2, .long (s_L_digest r)), (4, .int ((ft_pz r x2))), (5, .int ((l_servedTotal (ft_nr r)))), (6, .int ((l_arrivedTotal (ft_nr r)))), (7, .int (0)), (8, .int ((60 * (l_day (ft_nr r))) + (l_minute (ft_nr r)))), (9, .ref (b1)), (10, .ref (b2)), (11, .int (y11_54))]), W p l e (headSpec wsL_isPassing ({ frames := 12, cells := 2626, slots := 36488, locals := 277 })).room s m ([.ref a, .int x2] : List Value).toArray below meth c H locs (434 + 52) (2600 + 312) (MQ below (ft_QR J D k Z sz a (jc0 + 2) (fun z u => z = 1 ∧ u.1 0 = σ.1 0 ∧ ft_zv σ u)) ([.ref a, .int x2] : List Value).toArray s 2626 36488 (ft_AL sz)) (F0 m 111 ls [])) (n_54 : Nat), ∀ (y11_54 : Int32) (g1_54 g2_54 : Nat → Int32) (i_54 : Nat) (hi_54 : y11_54 = nI i_54) (hm_54 : i_54 ≤ tn 4) (hn_54 : tn 4 < n_54 + i_54) (hv_54 : (∀ j, j < i_54 → g1_54 j = p_soldPortions (ft_nr r) (nI j)) ∧ (∀ j, j < i_54 → g2_54 j = ft_up (fun z => p_stock (ft_nr r) z (nI j)) 0 (tn (l_truckCount (ft_nr r)))) ∧ (∀ j, i_54 ≤ j → g2_54 j = 0)) (H : Heap) (locs : List Loc) (hP : ft_LW D k Z (ft_s2 sz b1 b2) a ((l_servedWithin σ x2).2) H) (hS : va_S (ft_AL sz) s.heap H locs) (hA : ft_ia k b1 b2 g1_54 g2_54 s.heap.size H) (ls : Array Slot) (hl : lv_has ls 15 [(0, .ref (a)), (1, .int (x2)), (2, .long (s_L_digest r)), (4, .int ((ft_pz r x2))), (5, .int ((l_servedTotal (ft_nr r)))), (6, .int ((l_arrivedTotal (ft_nr r)))), (7, .int (0)), (8, .int ((60 * (l_day (ft_nr r))) + (l_minute (ft_nr r)))), (9, .ref (b1)), (10, .ref (b2)), (11, .int (y11_54))]), W p l e (headSpec wsL_isPassing ({ frames := 12, cells := 2626, slots := 36488, locals := 277 })).room s m ([.ref a, .int x2] : List Value).toArray below meth c H locs (434 + 13 * i_54) (2600 + 78 * i_54) (MQ below (ft_QR J D k Z sz a (jc0 + 2) (fun z u => z = 1 ∧ u.1 0 = σ.1 0 ∧ ft_zv σ u)) ([.ref a, .int x2] : List Value).toArray s 2626 36488 (ft_AL sz)) (F0 m 54 ls []) := by
    intro hKx n_54
    induction n_54 with
    | zero => intro y11_54 g1_54 g2_54 i_54 hi_54 hm_54 hn_54; exact absurd hn_54 (by omega)
    | succ n ih_54 =>
      intro y11_54 g1_54 g2_54 i_54 hi_54 hm_54 hn_54 hv_54 H locs hP hS hA ls hl
      have hm5_54 : i_54 ≤ 4 := hm_54
      refine lv_iload hx hb dL_isPassing_54 (lv_at hl 10 rfl) ?_
      refine lv_iconst (v := 4) hx hb dL_isPassing_56 (by decide) ?_
      refine lv_icmp_ge (tgt := 111) hx hb dL_isPassing_57 (by decide) (fun c_57 => ?_) (fun c_57 => ?_)
      · skip
        refine W.widen (k := 434 + 52) (n := 2600 + 312) (by omega) (by omega) ?_
        exact hKx y11_54 g1_54 g2_54 i_54 hi_54 hm_54 (ft_exi hi_54 hm_54 c_57) hv_54 _ _ hP hS hA ls (lv_sub hl [0, 1, 2, 3, 4, 5, 6, 7, 8, 9, 10] rfl)
      · skip
        have hlt_54 := ft_step hi_54 hm_54 c_57
        have hl5_54 : i_54 + 1 ≤ 4 := hlt_54
        refine lv_aload hx hb dL_isPassing_60 (lv_at hl 8 rfl) ?_
        refine lv_iload hx hb dL_isPassing_62 (lv_at hl 10 rfl) ?_
        refine lv_aload_n hx hb dL_isPassing_64 rfl (lv_at hl 0 rfl) ?_
        refine lv_iload hx hb dL_isPassing_65 (lv_at hl 10 rfl) ?_
        refine va_calli (va_runV (As := [.int (y11_54)]) (rest := [.int (y11_54), .ref (b1)]) ⟨hx, hb, hml, hown, hts⟩ (ft_noX (z := p_soldPortions (ft_nr r) y11_54) (cl_soldPortions l hl0 D Z k (ft_s2 sz b1 b2) a ((l_servedWithin σ x2).2) y11_54 ) (ft_ev (f := fun q9 => l_soldPortions (ft_nr q9) y11_54) hq_7_1 (ok_soldPortions (ft_nd hi_54 hl5_54)))) (cwV 1 hts gL_isPassing_X7_soldPortions rfl rfl rfl (by decide +kernel) ⟨Nat.le_of_ble_eq_true rfl, Nat.le_of_ble_eq_true rfl⟩) (ft_preL2 hEL2.1 hz hA hS hP) rfl rfl hl.1 rfl (lv_room (Nat.le_of_ble_eq_true rfl)) dL_isPassing_67 ⟨(show 434 + 13 * i_54 + 1 ≤ 2626 by omega), (show 2600 + 78 * i_54 + 6 ≤ 36488 by omega)⟩) hS (fun _ _ h => ft_AL2_le h) (fun _ h => ft_AL2_le h) (fun z u t H1 locs1 ht hvm hw hB hz1 hk1 hS1 => ?_)
        obtain rfl : p_soldPortions (ft_nr r) y11_54 = z := Eq.symm hw
        rw [ht] at hB
        have hP := hB
        have hS := hS1
        clear hS1
        have hA := hA.kept hk1
        generalize H1 = H at hP hS hA ⊢
        refine W.widen (k := 435 + 13 * i_54) (n := 2606 + 78 * i_54) (by omega) (by omega) ?_
        refine ft_ist1 hx hb hE.1.1 hA hP hS hz rfl (ft_vin hi_54 hlt_54) dL_isPassing_70 (fun H locs hA hP hS => ?_)
        refine lv_iconst (v := 0) hx hb dL_isPassing_71 (by decide) ?_
        refine lv_istore (lv' := [(12, .int (0)), (0, .ref (a)), (1, .int (x2)), (2, .long (s_L_digest r)), (4, .int ((ft_pz r x2))), (5, .int ((l_servedTotal (ft_nr r)))), (6, .int ((l_arrivedTotal (ft_nr r)))), (7, .int (0)), (8, .int ((60 * (l_day (ft_nr r))) + (l_minute (ft_nr r)))), (9, .ref (b1)), (10, .ref (b2)), (11, .int (y11_54))]) hx hb dL_isPassing_72 hl (by decide) rfl (fun ls hl => ?_)
        have hbn_74 : tn (l_truckCount (ft_nr r)) ≤ 6 := hJ.dN hg
        have loop_74 : ∀ (hKx : ∀ (y12_74 : Int32) (g1_74 g2_74 : Nat → Int32) (i_74 : Nat) (hi_74 : y12_74 = nI i_74) (hm_74 : i_74 ≤ tn (l_truckCount (ft_nr r))) (hx_74 : i_74 = tn (l_truckCount (ft_nr r))) (hv_74 : g1_74 = ft_ud g1_54 (tn y11_54) (p_soldPortions (ft_nr r) y11_54) ∧ g2_74 = ft_ud g2_54 (tn y11_54) (ft_up (fun z => p_stock (ft_nr r) z y11_54) 0 i_74)) (H : Heap) (locs : List Loc) (hP : ft_LW D k Z (ft_s2 sz b1 b2) a ((l_servedWithin σ x2).2) H) (hS : va_S (ft_AL sz) s.heap H locs) (hA : ft_ia k b1 b2 g1_74 g2_74 s.heap.size H) (ls : Array Slot) (hl : lv_has ls 15 [(0, .ref (a)), (1, .int (x2)), (2, .long (s_L_digest r)), (4, .int ((ft_pz r x2))), (5, .int ((l_servedTotal (ft_nr r)))), (6, .int ((l_arrivedTotal (ft_nr r)))), (7, .int (0)), (8, .int ((60 * (l_day (ft_nr r))) + (l_minute (ft_nr r)))), (9, .ref (b1)), (10, .ref (b2)), (11, .int (y11_54)), (12, .int (y12_74))]), W p l e (headSpec wsL_isPassing ({ frames := 12, cells := 2626, slots := 36488, locals := 277 })).room s m ([.ref a, .int x2] : List Value).toArray below meth c H locs (435 + 13 * i_54 + 12) (2606 + 78 * i_54 + 72) (MQ below (ft_QR J D k Z sz a (jc0 + 2) (fun z u => z = 1 ∧ u.1 0 = σ.1 0 ∧ ft_zv σ u)) ([.ref a, .int x2] : List Value).toArray s 2626 36488 (ft_AL sz)) (F0 m 105 ls [])) (n_74 : Nat), ∀ (y12_74 : Int32) (g1_74 g2_74 : Nat → Int32) (i_74 : Nat) (hi_74 : y12_74 = nI i_74) (hm_74 : i_74 ≤ tn (l_truckCount (ft_nr r))) (hn_74 : tn (l_truckCount (ft_nr r)) < n_74 + i_74) (hv_74 : g1_74 = ft_ud g1_54 (tn y11_54) (p_soldPortions (ft_nr r) y11_54) ∧ g2_74 = ft_ud g2_54 (tn y11_54) (ft_up (fun z => p_stock (ft_nr r) z y11_54) 0 i_74)) (H : Heap) (locs : List Loc) (hP : ft_LW D k Z (ft_s2 sz b1 b2) a ((l_servedWithin σ x2).2) H) (hS : va_S (ft_AL sz) s.heap H locs) (hA : ft_ia k b1 b2 g1_74 g2_74 s.heap.size H) (ls : Array Slot) (hl : lv_has ls 15 [(0, .ref (a)), (1, .int (x2)), (2, .long (s_L_digest r)), (4, .int ((ft_pz r x2))), (5, .int ((l_servedTotal (ft_nr r)))), (6, .int ((l_arrivedTotal (ft_nr r)))), (7, .int (0)), (8, .int ((60 * (l_day (ft_nr r))) + (l_minute (ft_nr r)))), (9, .ref (b1)), (10, .ref (b2)), (11, .int (y11_54)), (12, .int (y12_74))]), W p l e (headSpec wsL_isPassing ({ frames := 12, cells := 2626, slots := 36488, locals := 277 })).room s m ([.ref a, .int x2] : List Value).toArray below meth c H locs (435 + 13 * i_54 + 2 * i_74) (2606 + 78 * i_54 + 12 * i_74) (MQ below (ft_QR J D k Z sz a (jc0 + 2) (fun z u => z = 1 ∧ u.1 0 = σ.1 0 ∧ ft_zv σ u)) ([.ref a, .int x2] : List Value).toArray s 2626 36488 (ft_AL sz)) (F0 m 74 ls []) := by
          intro hKx n_74
          induction n_74 with
          | zero => intro y12_74 g1_74 g2_74 i_74 hi_74 hm_74 hn_74; exact absurd hn_74 (by omega)
          | succ n ih_74 =>
            intro y12_74 g1_74 g2_74 i_74 hi_74 hm_74 hn_74 hv_74 H locs hP hS hA ls hl
            have hm5_74 : i_74 ≤ 6 := Nat.le_trans hm_74 hbn_74
            refine lv_iload hx hb dL_isPassing_74 (lv_at hl 11 rfl) ?_
            refine lv_aload_n hx hb dL_isPassing_76 rfl (lv_at hl 0 rfl) ?_
            refine vp_callSi (va_Run.run (va_runV (As := []) (rest := [.int (y12_74)]) ⟨hx, hb, hml, hown, hts⟩ (cl_truckCount l D Z k (ft_s2 sz b1 b2) a ((l_servedWithin σ x2).2)) (cwV 0 hts gL_isPassing_X7_truckCount rfl rfl rfl (by decide +kernel) ⟨Nat.le_of_ble_eq_true rfl, Nat.le_of_ble_eq_true rfl⟩) (ft_preL2 hEL2.1 hz hA hS hP) rfl rfl hl.1 rfl (lv_room (Nat.le_of_ble_eq_true rfl)) dL_isPassing_77 ⟨(show 435 + 13 * i_54 + 2 * i_74 + 0 ≤ 2626 by omega), (show 2606 + 78 * i_54 + 12 * i_74 + 0 ≤ 36488 by omega)⟩)) (fun z hz9 => ?_)
            replace hz9 : z = l_truckCount (ft_nr r) := hz9.trans (ft_ev (f := fun q9 => l_truckCount (ft_nr q9)) hq_7_1 rfl)
            subst hz9
            refine lv_icmp_ge (tgt := 105) hx hb dL_isPassing_80 (by decide) (fun c_80 => ?_) (fun c_80 => ?_)
            · skip
              refine W.widen (k := 435 + 13 * i_54 + 12) (n := 2606 + 78 * i_54 + 72) (by omega) (by omega) ?_
              exact hKx y12_74 g1_74 g2_74 i_74 hi_74 hm_74 (ft_exi hi_74 hm_74 c_80) hv_74 _ _ hP hS hA ls (lv_sub hl [0, 1, 2, 3, 4, 5, 6, 7, 8, 9, 10, 11] rfl)
            · skip
              have hlt_74 := ft_step hi_74 hm_74 c_80
              have hl5_74 : i_74 + 1 ≤ 6 := Nat.le_trans hlt_74 hbn_74
              refine lv_aload hx hb dL_isPassing_83 (lv_at hl 9 rfl) ?_
              refine lv_iload hx hb dL_isPassing_85 (lv_at hl 10 rfl) ?_
              refine lv_dup2_11 hx hb dL_isPassing_87 rfl rfl ?_
              refine ft_ild2 hx hb hE.1.1 hA (ft_vin hi_54 hlt_54) dL_isPassing_88 ?_
              refine lv_aload_n hx hb dL_isPassing_89 rfl (lv_at hl 0 rfl) ?_
              refine lv_iload hx hb dL_isPassing_90 (lv_at hl 11 rfl) ?_
              refine lv_iload hx hb dL_isPassing_92 (lv_at hl 10 rfl) ?_
              refine va_calli (va_runV (As := [.int (y12_74), .int (y11_54)]) (rest := [.int ((g2_74 (tn y11_54))), .int (y11_54), .ref (b2)]) ⟨hx, hb, hml, hown, hts⟩ (ft_noX (z := p_stock (ft_nr r) y12_74 y11_54) (cl_stock l hl0 D Z k (ft_s2 sz b1 b2) a ((l_servedWithin σ x2).2) y12_74 y11_54 ) (ft_ev (f := fun q9 => l_stock (ft_nr q9) y12_74 y11_54) hq_7_1 (ok_stock (hJ.dT hg _ i_74 hi_74 hlt_74) (ft_nd hi_54 hl5_54)))) (cwV 2 hts gL_isPassing_X7_stock rfl rfl rfl (by decide +kernel) ⟨Nat.le_of_ble_eq_true rfl, Nat.le_of_ble_eq_true rfl⟩) (ft_preL2 hEL2.1 hz hA hS hP) rfl rfl hl.1 rfl (lv_room (Nat.le_of_ble_eq_true rfl)) dL_isPassing_94 ⟨(show 435 + 13 * i_54 + 2 * i_74 + 2 ≤ 2626 by omega), (show 2606 + 78 * i_54 + 12 * i_74 + 12 ≤ 36488 by omega)⟩) hS (fun _ _ h => ft_AL2_le h) (fun _ h => ft_AL2_le h) (fun z u t H1 locs1 ht hvm hw hB hz1 hk1 hS1 => ?_)
              obtain rfl : p_stock (ft_nr r) y12_74 y11_54 = z := Eq.symm hw
              rw [ht] at hB
              have hP := hB
              have hS := hS1
              clear hS1
              have hA := hA.kept hk1
              generalize H1 = H at hP hS hA ⊢
              refine W.widen (k := 437 + 13 * i_54 + 2 * i_74) (n := 2618 + 78 * i_54 + 12 * i_74) (by omega) (by omega) ?_
              refine lv_iadd hx hb dL_isPassing_97 ?_
              refine ft_ist2 hx hb hE.1.1 hA hP hS hz rfl (ft_vin hi_54 hlt_54) dL_isPassing_98 (fun H locs hA hP hS => ?_)
              refine lv_iinc (v := y12_74 + 1) (lv' := [(12, .int (y12_74 + 1)), (0, .ref (a)), (1, .int (x2)), (2, .long (s_L_digest r)), (4, .int ((ft_pz r x2))), (5, .int ((l_servedTotal (ft_nr r)))), (6, .int ((l_arrivedTotal (ft_nr r)))), (7, .int (0)), (8, .int ((60 * (l_day (ft_nr r))) + (l_minute (ft_nr r)))), (9, .ref (b1)), (10, .ref (b2)), (11, .int (y11_54))]) hx hb dL_isPassing_99 hl (k := 11) rfl rfl (by decide) rfl (fun ls hl => ?_)
              refine lv_goto (tgt := 74) hx hb dL_isPassing_102 (by decide) ?_
              refine W.widen (k := 435 + 13 * i_54 + 2 * (i_74 + 1)) (n := 2606 + 78 * i_54 + 12 * (i_74 + 1)) (by omega) (by omega) ?_
              exact ih_74 (y12_74 + 1) g1_74 (ft_ud g2_74 (tn y11_54) ((g2_74 (tn y11_54)) + (p_stock (ft_nr r) y12_74 y11_54))) (i_74 + 1) (by rw [hi_74, nI_1]) hlt_74 (by omega) (⟨hv_74.1, by rw [hv_74.2, ft_ud_self, ft_ud_ud, hi_74]; rfl⟩) _ _ hP hS hA ls (lv_sub hl [1, 2, 3, 4, 5, 6, 7, 8, 9, 10, 11, 0] rfl)
        refine W.widen (k := 435 + 13 * i_54 + 2 * 0) (n := 2606 + 78 * i_54 + 12 * 0) (by omega) (by omega) ?_
        refine loop_74 (fun y12_74 g1_74 g2_74 i_74 hi_74 hm_74 hx_74 hv_74 H locs hP hS hA ls hl => ?_) (tn (l_truckCount (ft_nr r)) + 1) 0 (ft_ud g1_54 (tn y11_54) (p_soldPortions (ft_nr r) y11_54)) g2_54 0 rfl (Nat.zero_le _) (by omega) (⟨rfl, (ft_ud_id (by rw [ft_ti hi_54 hl5_54]; exact hv_54.2.2 _ (Nat.le_refl _))).symm⟩) _ _ hP hS hA ls (lv_sub hl [1, 2, 3, 4, 5, 6, 7, 8, 9, 10, 11, 0] rfl)
        have hm5_74 : i_74 ≤ 6 := Nat.le_trans hm_74 hbn_74
        refine W.widen (k := 447 + 13 * i_54) (n := 2678 + 78 * i_54) (by omega) (by omega) ?_
        refine lv_iinc (v := y11_54 + 1) (lv' := [(11, .int (y11_54 + 1)), (0, .ref (a)), (1, .int (x2)), (2, .long (s_L_digest r)), (4, .int ((ft_pz r x2))), (5, .int ((l_servedTotal (ft_nr r)))), (6, .int ((l_arrivedTotal (ft_nr r)))), (7, .int (0)), (8, .int ((60 * (l_day (ft_nr r))) + (l_minute (ft_nr r)))), (9, .ref (b1)), (10, .ref (b2)), (12, .int (y12_74))]) hx hb dL_isPassing_105 hl (k := 10) rfl rfl (by decide) rfl (fun ls hl => ?_)
        refine lv_goto (tgt := 54) hx hb dL_isPassing_108 (by decide) ?_
        refine W.widen (k := 434 + 13 * (i_54 + 1)) (n := 2600 + 78 * (i_54 + 1)) (by omega) (by omega) ?_
        exact ih_54 (y11_54 + 1) g1_74 g2_74 (i_54 + 1) (by rw [hi_54, nI_1]) hlt_54 (by omega) (by rw [hv_74.1, hv_74.2, hx_74, ft_ti hi_54 hl5_54, hi_54]; exact ft_inv54 (P := fun j => p_soldPortions (ft_nr r) (nI j)) (S := fun j => ft_up (fun z => p_stock (ft_nr r) z (nI j)) 0 (tn (l_truckCount (ft_nr r)))) hv_54) _ _ hP hS hA ls (lv_sub hl [1, 2, 3, 4, 5, 6, 7, 8, 9, 10, 0] rfl)
  refine W.widen (k := 434 + 13 * 0) (n := 2600 + 78 * 0) (by omega) (by omega) ?_
  refine loop_54 (fun y11_54 g1_54 g2_54 i_54 hi_54 hm_54 hx_54 hv_54 H locs hP hS hA ls hl => ?_) (tn 4 + 1) 0 (fun _ => 0) (fun _ => 0) 0 rfl (Nat.zero_le _) (by omega) (⟨fun j h => absurd h (Nat.not_lt_zero j), fun j h => absurd h (Nat.not_lt_zero j), fun _ _ => rfl⟩) _ _ hP hS hA ls (lv_sub hl [9, 10, 8, 7, 6, 5, 4, 3, 2, 1, 0] rfl)
  have hm5_54 : i_54 ≤ 4 := hm_54
  refine W.widen (k := 486) (n := 2912) (by omega) (by omega) ?_
  refine lv_iconst (v := 0) hx hb dL_isPassing_111 (by decide) ?_
  refine lv_istore (lv' := [(11, .int (0)), (0, .ref (a)), (1, .int (x2)), (2, .long (s_L_digest r)), (4, .int ((ft_pz r x2))), (5, .int ((l_servedTotal (ft_nr r)))), (6, .int ((l_arrivedTotal (ft_nr r)))), (7, .int (0)), (8, .int ((60 * (l_day (ft_nr r))) + (l_minute (ft_nr r)))), (9, .ref (b1)), (10, .ref (b2))]) hx hb dL_isPassing_112 hl (by decide) rfl (fun ls hl => ?_)
  have hbn_114 : tn (l_truckCount (ft_nr r)) ≤ 6 := hJ.dN hg
  have loop_114 : ∀ (hKx : ∀ (y7_114 : Int32) (y11_114 : Int32) (i_114 : Nat) (hi_114 : y11_114 = nI i_114) (hm_114 : i_114 ≤ tn (l_truckCount (ft_nr r))) (hx_114 : i_114 = tn (l_truckCount (ft_nr r))) (hv_114 : y7_114 = ft_dn (fun y => p_coins (ft_nr r) y) 0 i_114) (H : Heap) (locs : List Loc) (hP : ft_LW D k Z (ft_s2 sz b1 b2) a ((l_servedWithin σ x2).2) H) (hS : va_S (ft_AL sz) s.heap H locs) (hA : ft_ia k b1 b2 g1_54 g2_54 s.heap.size H) (ls : Array Slot) (hl : lv_has ls 15 [(0, .ref (a)), (1, .int (x2)), (2, .long (s_L_digest r)), (4, .int ((ft_pz r x2))), (5, .int ((l_servedTotal (ft_nr r)))), (6, .int ((l_arrivedTotal (ft_nr r)))), (7, .int (y7_114)), (8, .int ((60 * (l_day (ft_nr r))) + (l_minute (ft_nr r)))), (9, .ref (b1)), (10, .ref (b2)), (11, .int (y11_114))]), W p l e (headSpec wsL_isPassing ({ frames := 12, cells := 2626, slots := 36488, locals := 277 })).room s m ([.ref a, .int x2] : List Value).toArray below meth c H locs (486 + 6) (2912 + 36) (MQ below (ft_QR J D k Z sz a (jc0 + 2) (fun z u => z = 1 ∧ u.1 0 = σ.1 0 ∧ ft_zv σ u)) ([.ref a, .int x2] : List Value).toArray s 2626 36488 (ft_AL sz)) (F0 m 140 ls [])) (n_114 : Nat), ∀ (y7_114 : Int32) (y11_114 : Int32) (i_114 : Nat) (hi_114 : y11_114 = nI i_114) (hm_114 : i_114 ≤ tn (l_truckCount (ft_nr r))) (hn_114 : tn (l_truckCount (ft_nr r)) < n_114 + i_114) (hv_114 : y7_114 = ft_dn (fun y => p_coins (ft_nr r) y) 0 i_114) (H : Heap) (locs : List Loc) (hP : ft_LW D k Z (ft_s2 sz b1 b2) a ((l_servedWithin σ x2).2) H) (hS : va_S (ft_AL sz) s.heap H locs) (hA : ft_ia k b1 b2 g1_54 g2_54 s.heap.size H) (ls : Array Slot) (hl : lv_has ls 15 [(0, .ref (a)), (1, .int (x2)), (2, .long (s_L_digest r)), (4, .int ((ft_pz r x2))), (5, .int ((l_servedTotal (ft_nr r)))), (6, .int ((l_arrivedTotal (ft_nr r)))), (7, .int (y7_114)), (8, .int ((60 * (l_day (ft_nr r))) + (l_minute (ft_nr r)))), (9, .ref (b1)), (10, .ref (b2)), (11, .int (y11_114))]), W p l e (headSpec wsL_isPassing ({ frames := 12, cells := 2626, slots := 36488, locals := 277 })).room s m ([.ref a, .int x2] : List Value).toArray below meth c H locs (486 + 1 * i_114) (2912 + 6 * i_114) (MQ below (ft_QR J D k Z sz a (jc0 + 2) (fun z u => z = 1 ∧ u.1 0 = σ.1 0 ∧ ft_zv σ u)) ([.ref a, .int x2] : List Value).toArray s 2626 36488 (ft_AL sz)) (F0 m 114 ls []) := by
    intro hKx n_114
    induction n_114 with
    | zero => intro y7_114 y11_114 i_114 hi_114 hm_114 hn_114; exact absurd hn_114 (by omega)
    | succ n ih_114 =>
      intro y7_114 y11_114 i_114 hi_114 hm_114 hn_114 hv_114 H locs hP hS hA ls hl
      have hm5_114 : i_114 ≤ 6 := Nat.le_trans hm_114 hbn_114
      refine lv_iload hx hb dL_isPassing_114 (lv_at hl 10 rfl) ?_
      refine lv_aload_n hx hb dL_isPassing_116 rfl (lv_at hl 0 rfl) ?_
      refine vp_callSi (va_Run.run (va_runV (As := []) (rest := [.int (y11_114)]) ⟨hx, hb, hml, hown, hts⟩ (cl_truckCount l D Z k (ft_s2 sz b1 b2) a ((l_servedWithin σ x2).2)) (cwV 0 hts gL_isPassing_X7_truckCount rfl rfl rfl (by decide +kernel) ⟨Nat.le_of_ble_eq_true rfl, Nat.le_of_ble_eq_true rfl⟩) (ft_preL2 hEL2.1 hz hA hS hP) rfl rfl hl.1 rfl (lv_room (Nat.le_of_ble_eq_true rfl)) dL_isPassing_117 ⟨(show 486 + 1 * i_114 + 0 ≤ 2626 by omega), (show 2912 + 6 * i_114 + 0 ≤ 36488 by omega)⟩)) (fun z hz9 => ?_)
      replace hz9 : z = l_truckCount (ft_nr r) := hz9.trans (ft_ev (f := fun q9 => l_truckCount (ft_nr q9)) hq_7_1 rfl)
      subst hz9
      refine lv_icmp_ge (tgt := 140) hx hb dL_isPassing_120 (by decide) (fun c_120 => ?_) (fun c_120 => ?_)
      · skip
        refine W.widen (k := 486 + 6) (n := 2912 + 36) (by omega) (by omega) ?_
        exact hKx y7_114 y11_114 i_114 hi_114 hm_114 (ft_exi hi_114 hm_114 c_120) hv_114 _ _ hP hS hA ls (lv_sub hl [0, 1, 2, 3, 4, 5, 6, 7, 8, 9, 10] rfl)
      · skip
        have hlt_114 := ft_step hi_114 hm_114 c_120
        have hl5_114 : i_114 + 1 ≤ 6 := Nat.le_trans hlt_114 hbn_114
        refine lv_iload hx hb dL_isPassing_123 (lv_at hl 6 rfl) ?_
        refine lv_aload_n hx hb dL_isPassing_125 rfl (lv_at hl 0 rfl) ?_
        refine lv_iload hx hb dL_isPassing_126 (lv_at hl 10 rfl) ?_
        refine va_calli (va_runV (As := [.int (y11_114)]) (rest := [.int (y7_114)]) ⟨hx, hb, hml, hown, hts⟩ (ft_noX (z := p_coins (ft_nr r) y11_114) (cl_coins l hl0 D Z k (ft_s2 sz b1 b2) a ((l_servedWithin σ x2).2) y11_114 ) (ft_ev (f := fun q9 => l_coins (ft_nr q9) y11_114) hq_7_1 (ok_coins (hJ.dT hg _ i_114 hi_114 hlt_114)))) (cwV 1 hts gL_isPassing_X7_coins rfl rfl rfl (by decide +kernel) ⟨Nat.le_of_ble_eq_true rfl, Nat.le_of_ble_eq_true rfl⟩) (ft_preL2 hEL2.1 hz hA hS hP) rfl rfl hl.1 rfl (lv_room (Nat.le_of_ble_eq_true rfl)) dL_isPassing_128 ⟨(show 486 + 1 * i_114 + 1 ≤ 2626 by omega), (show 2912 + 6 * i_114 + 6 ≤ 36488 by omega)⟩) hS (fun _ _ h => ft_AL2_le h) (fun _ h => ft_AL2_le h) (fun z u t H1 locs1 ht hvm hw hB hz1 hk1 hS1 => ?_)
        obtain rfl : p_coins (ft_nr r) y11_114 = z := Eq.symm hw
        rw [ht] at hB
        have hP := hB
        have hS := hS1
        clear hS1
        have hA := hA.kept hk1
        generalize H1 = H at hP hS hA ⊢
        refine W.widen (k := 487 + 1 * i_114) (n := 2918 + 6 * i_114) (by omega) (by omega) ?_
        refine lv_isub hx hb dL_isPassing_131 ?_
        refine lv_istore (lv' := [(7, .int (y7_114 - (p_coins (ft_nr r) y11_114))), (0, .ref (a)), (1, .int (x2)), (2, .long (s_L_digest r)), (4, .int ((ft_pz r x2))), (5, .int ((l_servedTotal (ft_nr r)))), (6, .int ((l_arrivedTotal (ft_nr r)))), (8, .int ((60 * (l_day (ft_nr r))) + (l_minute (ft_nr r)))), (9, .ref (b1)), (10, .ref (b2)), (11, .int (y11_114))]) hx hb dL_isPassing_132 hl (by decide) rfl (fun ls hl => ?_)
        refine lv_iinc (v := y11_114 + 1) (lv' := [(11, .int (y11_114 + 1)), (7, .int (y7_114 - (p_coins (ft_nr r) y11_114))), (0, .ref (a)), (1, .int (x2)), (2, .long (s_L_digest r)), (4, .int ((ft_pz r x2))), (5, .int ((l_servedTotal (ft_nr r)))), (6, .int ((l_arrivedTotal (ft_nr r)))), (8, .int ((60 * (l_day (ft_nr r))) + (l_minute (ft_nr r)))), (9, .ref (b1)), (10, .ref (b2))]) hx hb dL_isPassing_134 hl (k := 10) rfl rfl (by decide) rfl (fun ls hl => ?_)
        refine lv_goto (tgt := 114) hx hb dL_isPassing_137 (by decide) ?_
        refine W.widen (k := 486 + 1 * (i_114 + 1)) (n := 2912 + 6 * (i_114 + 1)) (by omega) (by omega) ?_
        exact ih_114 (y7_114 - (p_coins (ft_nr r) y11_114)) (y11_114 + 1) (i_114 + 1) (by rw [hi_114, nI_1]) hlt_114 (by omega) (by rw [hv_114, hi_114]; rfl) _ _ hP hS hA ls (lv_sub hl [2, 3, 4, 5, 6, 7, 1, 8, 9, 10, 0] rfl)
  refine W.widen (k := 486 + 1 * 0) (n := 2912 + 6 * 0) (by omega) (by omega) ?_
  refine loop_114 (fun y7_114 y11_114 i_114 hi_114 hm_114 hx_114 hv_114 H locs hP hS hA ls hl => ?_) (tn (l_truckCount (ft_nr r)) + 1) 0 0 0 rfl (Nat.zero_le _) (by omega) (rfl) _ _ hP hS hA ls (lv_sub hl [1, 2, 3, 4, 5, 6, 7, 8, 9, 10, 0] rfl)
  have hm5_114 : i_114 ≤ 6 := Nat.le_trans hm_114 hbn_114
  refine W.widen (k := 492) (n := 2948) (by omega) (by omega) ?_
  refine lv_aload_n hx hb dL_isPassing_140 rfl (lv_at hl 0 rfl) ?_
  refine va_calll (va_runS (As := [.ref (a)]) (rest := []) ⟨hx, hb, hml, hown, hts⟩ (c_L_digest l hl0 D Z k (ft_s2 sz b1 b2) a ((l_servedWithin σ x2).2) r hq_7_1 (hJ.dN hg) (hJ.dT hg) (hJ.dQ hg) (hJ.dW hg)) (va_cwS 1 hts gL_isPassing_L_digest rfl rfl rfl (by decide +kernel) ⟨Nat.le_of_ble_eq_true rfl, Nat.le_of_ble_eq_true rfl⟩) (ft_preM2 hEL2 hz hA hS hP) rfl rfl hl.1 rfl (lv_room (Nat.le_of_ble_eq_true rfl)) dL_isPassing_141 ⟨Nat.le_of_ble_eq_true rfl, Nat.le_of_ble_eq_true rfl⟩) hS (fun _ _ h => ft_AL2_le h) (fun _ h => ft_AL2_le h) (fun z u t H1 locs1 ht hvm hw hB hz1 hk1 hS1 => ?_)
  obtain rfl : z = (s_L_digest r) := hw
  rw [ht] at hB
  have hP := hB
  have hS := hS1
  clear hS1
  have hA := hA.kept hk1
  generalize H1 = H at hP hS hA ⊢
  refine W.widen (k := 923) (n := 5534) (by omega) (by omega) ?_
  refine lv_lload_n hx hb dL_isPassing_144 rfl (lv_at hl 2 rfl) ?_
  refine W.lcmp hx hb dL_isPassing_145 ?_
  rw [ft_cmp0]
  refine lv_if_ne (tgt := 217) hx hb dL_isPassing_146 (by decide) (fun c_146 => ?_) (fun c_146 => ?_)
  · skip
    first | exact absurd c_146 (by decide) | exact absurd (by decide) c_146
  · skip
    refine lv_aload_n hx hb dL_isPassing_149 rfl (lv_at hl 0 rfl) ?_
    refine lv_iload_n hx hb dL_isPassing_150 rfl (lv_at hl 1 rfl) ?_
    refine va_calli (vx_runSW (As := [.ref (a), .int (x2)]) (rest := []) ⟨hx, hb, hml, hown, hts⟩ (d_L_advance l hl0 D Z k (ft_s2 sz b1 b2) a ((l_servedWithin σ x2).2) x2 (hJ.pm hJ_7_0) (hJ.ex_advance _ hJ_7_0 (by omega))) (vx_cwSW 2 hts gL_isPassing_L_advance rfl rfl rfl (by decide +kernel) ⟨Nat.le_of_ble_eq_true rfl, Nat.le_of_ble_eq_true rfl⟩) (ft_preM2 hEL2 hz hA hS hP) rfl rfl hl.1 rfl (lv_room (Nat.le_of_ble_eq_true rfl)) dL_isPassing_151 ⟨Nat.le_of_ble_eq_true rfl, Nat.le_of_ble_eq_true rfl⟩) hS (fun _ _ h => ft_AL2_le h) (fun _ h => ft_AL2_le h) (fun z u t H1 locs1 ht hvm hw hB hz1 hk1 hS1 => ?_)
    obtain ⟨rfl, rfl⟩ : z = (ft_pz r x2) ∧ u = (w_advance ((l_servedWithin σ x2).2) x2).2 := ⟨(congrArg Prod.fst hw).trans ((hJ.ad hJ_7_0 (by omega) hm hq_7_1).1), congrArg Prod.snd hw⟩
    rw [ht] at hB
    have hP := hB
    have hS := hS1
    clear hS1
    have hA := hA.kept hk1
    generalize H1 = H at hP hS hA ⊢
    refine W.widen (k := 924) (n := 5540) (by omega) (by omega) ?_
    have hJ_151_1 : J (jc0 + 2) (w_advance ((l_servedWithin σ x2).2) x2).2 := hJ.mono (hJ.k_advance _ hJ_7_0 (by omega)) (by omega)
    have hq_151_2 : (w_advance ((l_servedWithin σ x2).2) x2).2.1 0 = (ft_pr r x2) := (hJ.ad hJ_7_0 (by omega) hm hq_7_1).2.1
    have hg_151_2 : G (ft_pr r x2) := hJ.gr hJ_151_1 (by omega) hq_151_2
    have hU_151 : ft_U r ((w_advance ((l_servedWithin σ x2).2) x2).2) := (hJ.ad hJ_7_0 (by omega) hm hq_7_1).2.2
    have hv_151 : ft_zv σ ((w_advance ((l_servedWithin σ x2).2) x2).2) := hv_7.tr (hJ.sv_advance _ hJ_7_0)
    refine lv_iload hx hb dL_isPassing_154 (lv_at hl 3 rfl) ?_
    refine lv_icmp_ne (tgt := 217) hx hb dL_isPassing_156 (by decide) (fun c_156 => ?_) (fun c_156 => ?_)
    · skip
      exact absurd (rfl) c_156
    · skip
      refine lv_aload_n hx hb dL_isPassing_159 rfl (lv_at hl 0 rfl) ?_
      refine vp_callSi (va_Run.run (va_runV (As := []) (rest := []) ⟨hx, hb, hml, hown, hts⟩ (cl_servedTotal l D Z k (ft_s2 sz b1 b2) a ((w_advance ((l_servedWithin σ x2).2) x2).2)) (cwV 0 hts gL_isPassing_X7_servedTotal rfl rfl rfl (by decide +kernel) ⟨Nat.le_of_ble_eq_true rfl, Nat.le_of_ble_eq_true rfl⟩) (ft_preL2 hEL2.1 hz hA hS hP) rfl rfl hl.1 rfl (lv_room (Nat.le_of_ble_eq_true rfl)) dL_isPassing_160 ⟨Nat.le_of_ble_eq_true rfl, Nat.le_of_ble_eq_true rfl⟩)) (fun z hz9 => ?_)
      replace hz9 : z = l_servedTotal (ft_nr (ft_pr r x2)) := hz9.trans (ft_ev (f := fun q9 => l_servedTotal (ft_nr q9)) hq_151_2 rfl)
      subst hz9
      refine lv_iload hx hb dL_isPassing_163 (lv_at hl 4 rfl) ?_
      refine lv_iload hx hb dL_isPassing_165 (lv_at hl 3 rfl) ?_
      refine lv_iadd hx hb dL_isPassing_167 ?_
      refine lv_icmp_ne (tgt := 217) hx hb dL_isPassing_168 (by decide) (fun c_168 => ?_) (fun c_168 => ?_)
      · skip
        exact absurd (hJ.p1 hg hg_151_2 hm) c_168
      · skip
        refine lv_aload_n hx hb dL_isPassing_171 rfl (lv_at hl 0 rfl) ?_
        refine vp_callSi (va_Run.run (va_runV (As := []) (rest := []) ⟨hx, hb, hml, hown, hts⟩ (cl_arrivedTotal l D Z k (ft_s2 sz b1 b2) a ((w_advance ((l_servedWithin σ x2).2) x2).2)) (cwV 0 hts gL_isPassing_X7_arrivedTotal rfl rfl rfl (by decide +kernel) ⟨Nat.le_of_ble_eq_true rfl, Nat.le_of_ble_eq_true rfl⟩) (ft_preL2 hEL2.1 hz hA hS hP) rfl rfl hl.1 rfl (lv_room (Nat.le_of_ble_eq_true rfl)) dL_isPassing_172 ⟨Nat.le_of_ble_eq_true rfl, Nat.le_of_ble_eq_true rfl⟩)) (fun z hz9 => ?_)
        replace hz9 : z = l_arrivedTotal (ft_nr (ft_pr r x2)) := hz9.trans (ft_ev (f := fun q9 => l_arrivedTotal (ft_nr q9)) hq_151_2 rfl)
        subst hz9
        refine lv_iload hx hb dL_isPassing_175 (lv_at hl 5 rfl) ?_
        refine lv_iload_n hx hb dL_isPassing_177 rfl (lv_at hl 1 rfl) ?_
        refine lv_aload_n hx hb dL_isPassing_178 rfl (lv_at hl 0 rfl) ?_
        refine vp_callSi (va_Run.run (va_runV (As := []) (rest := [.int (x2), .int ((l_arrivedTotal (ft_nr r))), .int ((l_arrivedTotal (ft_nr (ft_pr r x2))))]) ⟨hx, hb, hml, hown, hts⟩ (cl_weather l D Z k (ft_s2 sz b1 b2) a ((w_advance ((l_servedWithin σ x2).2) x2).2)) (cwV 0 hts gL_isPassing_X7_weather rfl rfl rfl (by decide +kernel) ⟨Nat.le_of_ble_eq_true rfl, Nat.le_of_ble_eq_true rfl⟩) (ft_preL2 hEL2.1 hz hA hS hP) rfl rfl hl.1 rfl (lv_room (Nat.le_of_ble_eq_true rfl)) dL_isPassing_179 ⟨Nat.le_of_ble_eq_true rfl, Nat.le_of_ble_eq_true rfl⟩)) (fun z hz9 => ?_)
        replace hz9 : z = l_weather (ft_nr (ft_pr r x2)) := hz9.trans (ft_ev (f := fun q9 => l_weather (ft_nr q9)) hq_151_2 rfl)
        subst hz9
        refine lv_imul hx hb dL_isPassing_182 ?_
        refine lv_iadd hx hb dL_isPassing_183 ?_
        refine lv_icmp_ne (tgt := 217) hx hb dL_isPassing_184 (by decide) (fun c_184 => ?_) (fun c_184 => ?_)
        · skip
          exact absurd (hJ.p2 hg hg_151_2 hm) c_184
        · skip
          refine lv_bipush (v := 60) hx hb dL_isPassing_187 (by decide) ?_
          refine lv_aload_n hx hb dL_isPassing_189 rfl (lv_at hl 0 rfl) ?_
          refine vp_callSi (va_Run.run (va_runV (As := []) (rest := [.int (60)]) ⟨hx, hb, hml, hown, hts⟩ (cl_day l D Z k (ft_s2 sz b1 b2) a ((w_advance ((l_servedWithin σ x2).2) x2).2)) (cwV 0 hts gL_isPassing_X7_day rfl rfl rfl (by decide +kernel) ⟨Nat.le_of_ble_eq_true rfl, Nat.le_of_ble_eq_true rfl⟩) (ft_preL2 hEL2.1 hz hA hS hP) rfl rfl hl.1 rfl (lv_room (Nat.le_of_ble_eq_true rfl)) dL_isPassing_190 ⟨Nat.le_of_ble_eq_true rfl, Nat.le_of_ble_eq_true rfl⟩)) (fun z hz9 => ?_)
          replace hz9 : z = l_day (ft_nr (ft_pr r x2)) := hz9.trans (ft_ev (f := fun q9 => l_day (ft_nr q9)) hq_151_2 rfl)
          subst hz9
          refine lv_imul hx hb dL_isPassing_193 ?_
          refine lv_aload_n hx hb dL_isPassing_194 rfl (lv_at hl 0 rfl) ?_
          refine vp_callSi (va_Run.run (va_runV (As := []) (rest := [.int (60 * (l_day (ft_nr (ft_pr r x2))))]) ⟨hx, hb, hml, hown, hts⟩ (cl_minute l D Z k (ft_s2 sz b1 b2) a ((w_advance ((l_servedWithin σ x2).2) x2).2)) (cwV 0 hts gL_isPassing_X7_minute rfl rfl rfl (by decide +kernel) ⟨Nat.le_of_ble_eq_true rfl, Nat.le_of_ble_eq_true rfl⟩) (ft_preL2 hEL2.1 hz hA hS hP) rfl rfl hl.1 rfl (lv_room (Nat.le_of_ble_eq_true rfl)) dL_isPassing_195 ⟨Nat.le_of_ble_eq_true rfl, Nat.le_of_ble_eq_true rfl⟩)) (fun z hz9 => ?_)
          replace hz9 : z = l_minute (ft_nr (ft_pr r x2)) := hz9.trans (ft_ev (f := fun q9 => l_minute (ft_nr q9)) hq_151_2 rfl)
          subst hz9
          refine lv_iadd hx hb dL_isPassing_198 ?_
          refine lv_iload hx hb dL_isPassing_199 (lv_at hl 7 rfl) ?_
          refine lv_iload_n hx hb dL_isPassing_201 rfl (lv_at hl 1 rfl) ?_
          refine lv_iadd hx hb dL_isPassing_202 ?_
          refine lv_icmp_ne (tgt := 217) hx hb dL_isPassing_203 (by decide) (fun c_203 => ?_) (fun c_203 => ?_)
          · skip
            exact absurd (hJ.p3 hg hg_151_2 hm) c_203
          · skip
            refine lv_aload_n hx hb dL_isPassing_206 rfl (lv_at hl 0 rfl) ?_
            refine va_calli (va_runS (As := [.ref (a)]) (rest := []) ⟨hx, hb, hml, hown, hts⟩ (c_L_areTrucks l hl0 D Z k (ft_s2 sz b1 b2) a ((w_advance ((l_servedWithin σ x2).2) x2).2) J G T hJ (jc0 + 2) hJ_151_1 (by omega) (ft_pr r x2) hq_151_2 ) (va_cwS 1 hts gL_isPassing_L_areTrucks rfl rfl rfl (by decide +kernel) ⟨Nat.le_of_ble_eq_true rfl, Nat.le_of_ble_eq_true rfl⟩) (ft_preM2 hEL2 hz hA hS hP) rfl rfl hl.1 rfl (lv_room (Nat.le_of_ble_eq_true rfl)) dL_isPassing_207 ⟨Nat.le_of_ble_eq_true rfl, Nat.le_of_ble_eq_true rfl⟩) hS (fun _ _ h => ft_AL2_le h) (fun _ h => ft_AL2_le h) (fun z u_207_2 t H1 locs1 ht hvm hw hB hz1 hk1 hS1 => ?_)
            obtain ⟨hp_u_207_2, hj_u_207_2⟩ := hw
            obtain ⟨hz_u_207_2, hp_u_207_2⟩ := hp_u_207_2
            subst hz_u_207_2
            replace hj_u_207_2 : J (jc0 + 2) u_207_2 := hJ.mono hj_u_207_2 (by omega)
            rw [ht] at hB
            have hP := hB
            have hS := hS1
            clear hS1
            have hA := hA.kept hk1
            generalize H1 = H at hP hS hA ⊢
            refine W.widen (k := 2132) (n := 33524) (by omega) (by omega) ?_
            have hq_u_207_2 : u_207_2.1 0 = (ft_pr r x2) := (ft_zm.row hp_u_207_2).trans hq_151_2
            have hU_207 : ft_U r u_207_2 := hJ.uU hU_151 hp_u_207_2
            have hv_207 : ft_zv σ u_207_2 := hv_151.tr (hp_u_207_2).v
            refine lv_if_eq (tgt := 217) hx hb dL_isPassing_210 (by decide) (fun c_210 => ?_) (fun c_210 => ?_)
            · skip
              first | exact absurd c_210 (by decide) | exact absurd (by decide) c_210
            · skip
              refine lv_iconst (v := 1) hx hb dL_isPassing_213 (by decide) ?_
              refine lv_goto (tgt := 218) hx hb dL_isPassing_214 (by decide) ?_
              refine lv_istore (lv' := [(11, .int (1)), (0, .ref (a)), (1, .int (x2)), (2, .long (s_L_digest r)), (4, .int ((ft_pz r x2))), (5, .int ((l_servedTotal (ft_nr r)))), (6, .int ((l_arrivedTotal (ft_nr r)))), (7, .int (y7_114)), (8, .int ((60 * (l_day (ft_nr r))) + (l_minute (ft_nr r)))), (9, .ref (b1)), (10, .ref (b2))]) hx hb dL_isPassing_218 hl (by decide) rfl (fun ls hl => ?_)
              refine lv_iconst (v := 0) hx hb dL_isPassing_220 (by decide) ?_
              refine lv_istore (lv' := [(12, .int (0)), (11, .int (1)), (0, .ref (a)), (1, .int (x2)), (2, .long (s_L_digest r)), (4, .int ((ft_pz r x2))), (5, .int ((l_servedTotal (ft_nr r)))), (6, .int ((l_arrivedTotal (ft_nr r)))), (7, .int (y7_114)), (8, .int ((60 * (l_day (ft_nr r))) + (l_minute (ft_nr r)))), (9, .ref (b1)), (10, .ref (b2))]) hx hb dL_isPassing_221 hl (by decide) rfl (fun ls hl => ?_)
              have hbn_223 : tn (l_truckCount (ft_nr (ft_pr r x2))) ≤ 6 := hJ.dN hg_151_2
              have loop_223 : ∀ (hKx : ∀ (y7_223 : Int32) (y12_223 : Int32) (i_223 : Nat) (hi_223 : y12_223 = nI i_223) (hm_223 : i_223 ≤ tn (l_truckCount (ft_nr (ft_pr r x2)))) (hx_223 : i_223 = tn (l_truckCount (ft_nr (ft_pr r x2)))) (hv_223 : y7_223 = ft_up (fun y => p_coins (ft_nr (ft_pr r x2)) y) y7_114 i_223) (H : Heap) (locs : List Loc) (hP : ft_LW D k Z (ft_s2 sz b1 b2) a u_207_2 H) (hS : va_S (ft_AL sz) s.heap H locs) (hA : ft_ia k b1 b2 g1_54 g2_54 s.heap.size H) (ls : Array Slot) (hl : lv_has ls 15 [(0, .ref (a)), (1, .int (x2)), (2, .long (s_L_digest r)), (4, .int ((ft_pz r x2))), (5, .int ((l_servedTotal (ft_nr r)))), (6, .int ((l_arrivedTotal (ft_nr r)))), (7, .int (y7_223)), (8, .int ((60 * (l_day (ft_nr r))) + (l_minute (ft_nr r)))), (9, .ref (b1)), (10, .ref (b2)), (11, .int (1)), (12, .int (y12_223))]), W p l e (headSpec wsL_isPassing ({ frames := 12, cells := 2626, slots := 36488, locals := 277 })).room s m ([.ref a, .int x2] : List Value).toArray below meth c H locs (2132 + 6) (33524 + 36) (MQ below (ft_QR J D k Z sz a (jc0 + 2) (fun z u => z = 1 ∧ u.1 0 = σ.1 0 ∧ ft_zv σ u)) ([.ref a, .int x2] : List Value).toArray s 2626 36488 (ft_AL sz)) (F0 m 249 ls [])) (n_223 : Nat), ∀ (y7_223 : Int32) (y12_223 : Int32) (i_223 : Nat) (hi_223 : y12_223 = nI i_223) (hm_223 : i_223 ≤ tn (l_truckCount (ft_nr (ft_pr r x2)))) (hn_223 : tn (l_truckCount (ft_nr (ft_pr r x2))) < n_223 + i_223) (hv_223 : y7_223 = ft_up (fun y => p_coins (ft_nr (ft_pr r x2)) y) y7_114 i_223) (H : Heap) (locs : List Loc) (hP : ft_LW D k Z (ft_s2 sz b1 b2) a u_207_2 H) (hS : va_S (ft_AL sz) s.heap H locs) (hA : ft_ia k b1 b2 g1_54 g2_54 s.heap.size H) (ls : Array Slot) (hl : lv_has ls 15 [(0, .ref (a)), (1, .int (x2)), (2, .long (s_L_digest r)), (4, .int ((ft_pz r x2))), (5, .int ((l_servedTotal (ft_nr r)))), (6, .int ((l_arrivedTotal (ft_nr r)))), (7, .int (y7_223)), (8, .int ((60 * (l_day (ft_nr r))) + (l_minute (ft_nr r)))), (9, .ref (b1)), (10, .ref (b2)), (11, .int (1)), (12, .int (y12_223))]), W p l e (headSpec wsL_isPassing ({ frames := 12, cells := 2626, slots := 36488, locals := 277 })).room s m ([.ref a, .int x2] : List Value).toArray below meth c H locs (2132 + 1 * i_223) (33524 + 6 * i_223) (MQ below (ft_QR J D k Z sz a (jc0 + 2) (fun z u => z = 1 ∧ u.1 0 = σ.1 0 ∧ ft_zv σ u)) ([.ref a, .int x2] : List Value).toArray s 2626 36488 (ft_AL sz)) (F0 m 223 ls []) := by
                intro hKx n_223
                induction n_223 with
                | zero => intro y7_223 y12_223 i_223 hi_223 hm_223 hn_223; exact absurd hn_223 (by omega)
                | succ n ih_223 =>
                  intro y7_223 y12_223 i_223 hi_223 hm_223 hn_223 hv_223 H locs hP hS hA ls hl
                  have hm5_223 : i_223 ≤ 6 := Nat.le_trans hm_223 hbn_223
                  refine lv_iload hx hb dL_isPassing_223 (lv_at hl 11 rfl) ?_
                  refine lv_aload_n hx hb dL_isPassing_225 rfl (lv_at hl 0 rfl) ?_
                  refine vp_callSi (va_Run.run (va_runV (As := []) (rest := [.int (y12_223)]) ⟨hx, hb, hml, hown, hts⟩ (cl_truckCount l D Z k (ft_s2 sz b1 b2) a u_207_2) (cwV 0 hts gL_isPassing_X7_truckCount rfl rfl rfl (by decide +kernel) ⟨Nat.le_of_ble_eq_true rfl, Nat.le_of_ble_eq_true rfl⟩) (ft_preL2 hEL2.1 hz hA hS hP) rfl rfl hl.1 rfl (lv_room (Nat.le_of_ble_eq_true rfl)) dL_isPassing_226 ⟨(show 2132 + 1 * i_223 + 0 ≤ 2626 by omega), (show 33524 + 6 * i_223 + 0 ≤ 36488 by omega)⟩)) (fun z hz9 => ?_)
                  replace hz9 : z = l_truckCount (ft_nr (ft_pr r x2)) := hz9.trans (ft_ev (f := fun q9 => l_truckCount (ft_nr q9)) hq_u_207_2 rfl)
                  subst hz9
                  refine lv_icmp_ge (tgt := 249) hx hb dL_isPassing_229 (by decide) (fun c_229 => ?_) (fun c_229 => ?_)
                  · skip
                    refine W.widen (k := 2132 + 6) (n := 33524 + 36) (by omega) (by omega) ?_
                    exact hKx y7_223 y12_223 i_223 hi_223 hm_223 (ft_exi hi_223 hm_223 c_229) hv_223 _ _ hP hS hA ls (lv_sub hl [0, 1, 2, 3, 4, 5, 6, 7, 8, 9, 10, 11] rfl)
                  · skip
                    have hlt_223 := ft_step hi_223 hm_223 c_229
                    have hl5_223 : i_223 + 1 ≤ 6 := Nat.le_trans hlt_223 hbn_223
                    refine lv_iload hx hb dL_isPassing_232 (lv_at hl 6 rfl) ?_
                    refine lv_aload_n hx hb dL_isPassing_234 rfl (lv_at hl 0 rfl) ?_
                    refine lv_iload hx hb dL_isPassing_235 (lv_at hl 11 rfl) ?_
                    refine va_calli (va_runV (As := [.int (y12_223)]) (rest := [.int (y7_223)]) ⟨hx, hb, hml, hown, hts⟩ (ft_noX (z := p_coins (ft_nr (ft_pr r x2)) y12_223) (cl_coins l hl0 D Z k (ft_s2 sz b1 b2) a u_207_2 y12_223 ) (ft_ev (f := fun q9 => l_coins (ft_nr q9) y12_223) hq_u_207_2 (ok_coins (hJ.dT hg_151_2 _ i_223 hi_223 hlt_223)))) (cwV 1 hts gL_isPassing_X7_coins rfl rfl rfl (by decide +kernel) ⟨Nat.le_of_ble_eq_true rfl, Nat.le_of_ble_eq_true rfl⟩) (ft_preL2 hEL2.1 hz hA hS hP) rfl rfl hl.1 rfl (lv_room (Nat.le_of_ble_eq_true rfl)) dL_isPassing_237 ⟨(show 2132 + 1 * i_223 + 1 ≤ 2626 by omega), (show 33524 + 6 * i_223 + 6 ≤ 36488 by omega)⟩) hS (fun _ _ h => ft_AL2_le h) (fun _ h => ft_AL2_le h) (fun z u t H1 locs1 ht hvm hw hB hz1 hk1 hS1 => ?_)
                    obtain rfl : p_coins (ft_nr (ft_pr r x2)) y12_223 = z := Eq.symm hw
                    rw [ht] at hB
                    have hP := hB
                    have hS := hS1
                    clear hS1
                    have hA := hA.kept hk1
                    generalize H1 = H at hP hS hA ⊢
                    refine W.widen (k := 2133 + 1 * i_223) (n := 33530 + 6 * i_223) (by omega) (by omega) ?_
                    refine lv_iadd hx hb dL_isPassing_240 ?_
                    refine lv_istore (lv' := [(7, .int (y7_223 + (p_coins (ft_nr (ft_pr r x2)) y12_223))), (0, .ref (a)), (1, .int (x2)), (2, .long (s_L_digest r)), (4, .int ((ft_pz r x2))), (5, .int ((l_servedTotal (ft_nr r)))), (6, .int ((l_arrivedTotal (ft_nr r)))), (8, .int ((60 * (l_day (ft_nr r))) + (l_minute (ft_nr r)))), (9, .ref (b1)), (10, .ref (b2)), (11, .int (1)), (12, .int (y12_223))]) hx hb dL_isPassing_241 hl (by decide) rfl (fun ls hl => ?_)
                    refine lv_iinc (v := y12_223 + 1) (lv' := [(12, .int (y12_223 + 1)), (7, .int (y7_223 + (p_coins (ft_nr (ft_pr r x2)) y12_223))), (0, .ref (a)), (1, .int (x2)), (2, .long (s_L_digest r)), (4, .int ((ft_pz r x2))), (5, .int ((l_servedTotal (ft_nr r)))), (6, .int ((l_arrivedTotal (ft_nr r)))), (8, .int ((60 * (l_day (ft_nr r))) + (l_minute (ft_nr r)))), (9, .ref (b1)), (10, .ref (b2)), (11, .int (1))]) hx hb dL_isPassing_243 hl (k := 11) rfl rfl (by decide) rfl (fun ls hl => ?_)
                    refine lv_goto (tgt := 223) hx hb dL_isPassing_246 (by decide) ?_
                    refine W.widen (k := 2132 + 1 * (i_223 + 1)) (n := 33524 + 6 * (i_223 + 1)) (by omega) (by omega) ?_
                    exact ih_223 (y7_223 + (p_coins (ft_nr (ft_pr r x2)) y12_223)) (y12_223 + 1) (i_223 + 1) (by rw [hi_223, nI_1]) hlt_223 (by omega) (by rw [hv_223, hi_223]; rfl) _ _ hP hS hA ls (lv_sub hl [2, 3, 4, 5, 6, 7, 1, 8, 9, 10, 11, 0] rfl)
              refine W.widen (k := 2132 + 1 * 0) (n := 33524 + 6 * 0) (by omega) (by omega) ?_
              refine loop_223 (fun y7_223 y12_223 i_223 hi_223 hm_223 hx_223 hv_223 H locs hP hS hA ls hl => ?_) (tn (l_truckCount (ft_nr (ft_pr r x2))) + 1) y7_114 0 0 rfl (Nat.zero_le _) (by omega) (rfl) _ _ hP hS hA ls (lv_sub hl [2, 3, 4, 5, 6, 7, 8, 9, 10, 11, 1, 0] rfl)
              have hm5_223 : i_223 ≤ 6 := Nat.le_trans hm_223 hbn_223
              refine W.widen (k := 2138) (n := 33560) (by omega) (by omega) ?_
              refine lv_iconst (v := 0) hx hb dL_isPassing_249 (by decide) ?_
              refine lv_istore (lv' := [(12, .int (0)), (0, .ref (a)), (1, .int (x2)), (2, .long (s_L_digest r)), (4, .int ((ft_pz r x2))), (5, .int ((l_servedTotal (ft_nr r)))), (6, .int ((l_arrivedTotal (ft_nr r)))), (7, .int (y7_223)), (8, .int ((60 * (l_day (ft_nr r))) + (l_minute (ft_nr r)))), (9, .ref (b1)), (10, .ref (b2)), (11, .int (1))]) hx hb dL_isPassing_250 hl (by decide) rfl (fun ls hl => ?_)
              have loop_252 : ∀ (hKx : ∀ (y7_252 : Int32) (y12_252 : Int32) (g1_252 g2_252 : Nat → Int32) (i_252 : Nat) (hi_252 : y12_252 = nI i_252) (hm_252 : i_252 ≤ tn 4) (hx_252 : i_252 = tn 4) (hv_252 : g1_252 = g1_54 ∧ (∀ j, i_252 ≤ j → g2_252 j = g2_54 j) ∧ y7_252 = ft_dn (fun y => ((p_soldPortions (ft_nr (ft_pr r x2)) y) - (p_soldPortions (ft_nr r) y)) * (p_price (ft_nr (ft_pr r x2)) y)) y7_223 i_252) (H : Heap) (locs : List Loc) (hP : ft_LW D k Z (ft_s2 sz b1 b2) a u_207_2 H) (hS : va_S (ft_AL sz) s.heap H locs) (hA : ft_ia k b1 b2 g1_252 g2_252 s.heap.size H) (ls : Array Slot) (hl : lv_has ls 15 [(0, .ref (a)), (1, .int (x2)), (2, .long (s_L_digest r)), (4, .int ((ft_pz r x2))), (5, .int ((l_servedTotal (ft_nr r)))), (6, .int ((l_arrivedTotal (ft_nr r)))), (7, .int (y7_252)), (8, .int ((60 * (l_day (ft_nr r))) + (l_minute (ft_nr r)))), (9, .ref (b1)), (10, .ref (b2)), (11, .int (1)), (12, .int (y12_252))]), W p l e (headSpec wsL_isPassing ({ frames := 12, cells := 2626, slots := 36488, locals := 277 })).room s m ([.ref a, .int x2] : List Value).toArray below meth c H locs (2138 + 56) (33560 + 336) (MQ below (ft_QR J D k Z sz a (jc0 + 2) (fun z u => z = 1 ∧ u.1 0 = σ.1 0 ∧ ft_zv σ u)) ([.ref a, .int x2] : List Value).toArray s 2626 36488 (ft_AL sz)) (F0 m 353 ls [])) (n_252 : Nat), ∀ (y7_252 : Int32) (y12_252 : Int32) (g1_252 g2_252 : Nat → Int32) (i_252 : Nat) (hi_252 : y12_252 = nI i_252) (hm_252 : i_252 ≤ tn 4) (hn_252 : tn 4 < n_252 + i_252) (hv_252 : g1_252 = g1_54 ∧ (∀ j, i_252 ≤ j → g2_252 j = g2_54 j) ∧ y7_252 = ft_dn (fun y => ((p_soldPortions (ft_nr (ft_pr r x2)) y) - (p_soldPortions (ft_nr r) y)) * (p_price (ft_nr (ft_pr r x2)) y)) y7_223 i_252) (H : Heap) (locs : List Loc) (hP : ft_LW D k Z (ft_s2 sz b1 b2) a u_207_2 H) (hS : va_S (ft_AL sz) s.heap H locs) (hA : ft_ia k b1 b2 g1_252 g2_252 s.heap.size H) (ls : Array Slot) (hl : lv_has ls 15 [(0, .ref (a)), (1, .int (x2)), (2, .long (s_L_digest r)), (4, .int ((ft_pz r x2))), (5, .int ((l_servedTotal (ft_nr r)))), (6, .int ((l_arrivedTotal (ft_nr r)))), (7, .int (y7_252)), (8, .int ((60 * (l_day (ft_nr r))) + (l_minute (ft_nr r)))), (9, .ref (b1)), (10, .ref (b2)), (11, .int (1)), (12, .int (y12_252))]), W p l e (headSpec wsL_isPassing ({ frames := 12, cells := 2626, slots := 36488, locals := 277 })).room s m ([.ref a, .int x2] : List Value).toArray below meth c H locs (2138 + 14 * i_252) (33560 + 84 * i_252) (MQ below (ft_QR J D k Z sz a (jc0 + 2) (fun z u => z = 1 ∧ u.1 0 = σ.1 0 ∧ ft_zv σ u)) ([.ref a, .int x2] : List Value).toArray s 2626 36488 (ft_AL sz)) (F0 m 252 ls []) := by
                intro hKx n_252
                induction n_252 with
                | zero => intro y7_252 y12_252 g1_252 g2_252 i_252 hi_252 hm_252 hn_252; exact absurd hn_252 (by omega)
                | succ n ih_252 =>
                  intro y7_252 y12_252 g1_252 g2_252 i_252 hi_252 hm_252 hn_252 hv_252 H locs hP hS hA ls hl
                  have hm5_252 : i_252 ≤ 4 := hm_252
                  refine lv_iload hx hb dL_isPassing_252 (lv_at hl 10 rfl) ?_
                  refine lv_if_eq (tgt := 353) hx hb dL_isPassing_254 (by decide) (fun c_254 => ?_) (fun c_254 => ?_)
                  · skip
                    first | exact absurd c_254 (by decide) | exact absurd (by decide) c_254
                  · skip
                    refine lv_iload hx hb dL_isPassing_257 (lv_at hl 11 rfl) ?_
                    refine lv_iconst (v := 4) hx hb dL_isPassing_259 (by decide) ?_
                    refine lv_icmp_ge (tgt := 353) hx hb dL_isPassing_260 (by decide) (fun c_260 => ?_) (fun c_260 => ?_)
                    · skip
                      refine W.widen (k := 2138 + 56) (n := 33560 + 336) (by omega) (by omega) ?_
                      exact hKx y7_252 y12_252 g1_252 g2_252 i_252 hi_252 hm_252 (ft_exi hi_252 hm_252 c_260) hv_252 _ _ hP hS hA ls (lv_sub hl [0, 1, 2, 3, 4, 5, 6, 7, 8, 9, 10, 11] rfl)
                    · skip
                      have hlt_252 := ft_step hi_252 hm_252 c_260
                      have hl5_252 : i_252 + 1 ≤ 4 := hlt_252
                      have hG_252 : g1_252 (tn y12_252) = p_soldPortions (ft_nr r) y12_252 := by rw [hv_252.1, (ft_ti hi_252 hl5_252), hv_54.1 i_252 (by rw [hx_54]; exact hlt_252), hi_252]
                      have hS_252 : g2_252 (tn y12_252) = ft_up (fun z => p_stock (ft_nr r) z y12_252) 0 (tn (l_truckCount (ft_nr r))) := by rw [(ft_ti hi_252 hl5_252), hv_252.2.1 _ (Nat.le_refl _), hv_54.2.1 i_252 (by rw [hx_54]; exact hlt_252), hi_252]
                      refine lv_aload_n hx hb dL_isPassing_263 rfl (lv_at hl 0 rfl) ?_
                      refine lv_iload hx hb dL_isPassing_264 (lv_at hl 11 rfl) ?_
                      refine va_calli (va_runV (As := [.int (y12_252)]) (rest := []) ⟨hx, hb, hml, hown, hts⟩ (ft_noX (z := p_soldPortions (ft_nr (ft_pr r x2)) y12_252) (cl_soldPortions l hl0 D Z k (ft_s2 sz b1 b2) a u_207_2 y12_252 ) (ft_ev (f := fun q9 => l_soldPortions (ft_nr q9) y12_252) hq_u_207_2 (ok_soldPortions (ft_nd hi_252 hl5_252)))) (cwV 1 hts gL_isPassing_X7_soldPortions rfl rfl rfl (by decide +kernel) ⟨Nat.le_of_ble_eq_true rfl, Nat.le_of_ble_eq_true rfl⟩) (ft_preL2 hEL2.1 hz hA hS hP) rfl rfl hl.1 rfl (lv_room (Nat.le_of_ble_eq_true rfl)) dL_isPassing_266 ⟨(show 2138 + 14 * i_252 + 1 ≤ 2626 by omega), (show 33560 + 84 * i_252 + 6 ≤ 36488 by omega)⟩) hS (fun _ _ h => ft_AL2_le h) (fun _ h => ft_AL2_le h) (fun z u t H1 locs1 ht hvm hw hB hz1 hk1 hS1 => ?_)
                      obtain rfl : p_soldPortions (ft_nr (ft_pr r x2)) y12_252 = z := Eq.symm hw
                      rw [ht] at hB
                      have hP := hB
                      have hS := hS1
                      clear hS1
                      have hA := hA.kept hk1
                      generalize H1 = H at hP hS hA ⊢
                      refine W.widen (k := 2139 + 14 * i_252) (n := 33566 + 84 * i_252) (by omega) (by omega) ?_
                      refine lv_aload hx hb dL_isPassing_269 (lv_at hl 8 rfl) ?_
                      refine lv_iload hx hb dL_isPassing_271 (lv_at hl 11 rfl) ?_
                      refine ft_ild1 hx hb hE.1.1 hA (ft_vin hi_252 hlt_252) dL_isPassing_273 ?_
                      refine lv_isub hx hb dL_isPassing_274 ?_
                      refine lv_istore (lv' := [(13, .int ((p_soldPortions (ft_nr (ft_pr r x2)) y12_252) - (g1_252 (tn y12_252)))), (0, .ref (a)), (1, .int (x2)), (2, .long (s_L_digest r)), (4, .int ((ft_pz r x2))), (5, .int ((l_servedTotal (ft_nr r)))), (6, .int ((l_arrivedTotal (ft_nr r)))), (7, .int (y7_252)), (8, .int ((60 * (l_day (ft_nr r))) + (l_minute (ft_nr r)))), (9, .ref (b1)), (10, .ref (b2)), (11, .int (1)), (12, .int (y12_252))]) hx hb dL_isPassing_275 hl (by decide) rfl (fun ls hl => ?_)
                      refine lv_iconst (v := 0) hx hb dL_isPassing_277 (by decide) ?_
                      refine lv_istore (lv' := [(14, .int (0)), (13, .int ((p_soldPortions (ft_nr (ft_pr r x2)) y12_252) - (g1_252 (tn y12_252)))), (0, .ref (a)), (1, .int (x2)), (2, .long (s_L_digest r)), (4, .int ((ft_pz r x2))), (5, .int ((l_servedTotal (ft_nr r)))), (6, .int ((l_arrivedTotal (ft_nr r)))), (7, .int (y7_252)), (8, .int ((60 * (l_day (ft_nr r))) + (l_minute (ft_nr r)))), (9, .ref (b1)), (10, .ref (b2)), (11, .int (1)), (12, .int (y12_252))]) hx hb dL_isPassing_278 hl (by decide) rfl (fun ls hl => ?_)
                      have hbn_280 : tn (l_truckCount (ft_nr (ft_pr r x2))) ≤ 6 := hJ.dN hg_151_2
                      have loop_280 : ∀ (hKx : ∀ (y14_280 : Int32) (g1_280 g2_280 : Nat → Int32) (i_280 : Nat) (hi_280 : y14_280 = nI i_280) (hm_280 : i_280 ≤ tn (l_truckCount (ft_nr (ft_pr r x2)))) (hx_280 : i_280 = tn (l_truckCount (ft_nr (ft_pr r x2)))) (hv_280 : g1_280 = g1_252 ∧ g2_280 = ft_ud g2_252 (tn y12_252) (ft_dn (fun z => p_stock (ft_nr (ft_pr r x2)) z y12_252) (g2_252 (tn y12_252)) i_280)) (H : Heap) (locs : List Loc) (hP : ft_LW D k Z (ft_s2 sz b1 b2) a u_207_2 H) (hS : va_S (ft_AL sz) s.heap H locs) (hA : ft_ia k b1 b2 g1_280 g2_280 s.heap.size H) (ls : Array Slot) (hl : lv_has ls 15 [(0, .ref (a)), (1, .int (x2)), (2, .long (s_L_digest r)), (4, .int ((ft_pz r x2))), (5, .int ((l_servedTotal (ft_nr r)))), (6, .int ((l_arrivedTotal (ft_nr r)))), (7, .int (y7_252)), (8, .int ((60 * (l_day (ft_nr r))) + (l_minute (ft_nr r)))), (9, .ref (b1)), (10, .ref (b2)), (11, .int (1)), (12, .int (y12_252)), (13, .int ((p_soldPortions (ft_nr (ft_pr r x2)) y12_252) - (g1_252 (tn y12_252)))), (14, .int (y14_280))]), W p l e (headSpec wsL_isPassing ({ frames := 12, cells := 2626, slots := 36488, locals := 277 })).room s m ([.ref a, .int x2] : List Value).toArray below meth c H locs (2139 + 14 * i_252 + 12) (33566 + 84 * i_252 + 72) (MQ below (ft_QR J D k Z sz a (jc0 + 2) (fun z u => z = 1 ∧ u.1 0 = σ.1 0 ∧ ft_zv σ u)) ([.ref a, .int x2] : List Value).toArray s 2626 36488 (ft_AL sz)) (F0 m 311 ls [])) (n_280 : Nat), ∀ (y14_280 : Int32) (g1_280 g2_280 : Nat → Int32) (i_280 : Nat) (hi_280 : y14_280 = nI i_280) (hm_280 : i_280 ≤ tn (l_truckCount (ft_nr (ft_pr r x2)))) (hn_280 : tn (l_truckCount (ft_nr (ft_pr r x2))) < n_280 + i_280) (hv_280 : g1_280 = g1_252 ∧ g2_280 = ft_ud g2_252 (tn y12_252) (ft_dn (fun z => p_stock (ft_nr (ft_pr r x2)) z y12_252) (g2_252 (tn y12_252)) i_280)) (H : Heap) (locs : List Loc) (hP : ft_LW D k Z (ft_s2 sz b1 b2) a u_207_2 H) (hS : va_S (ft_AL sz) s.heap H locs) (hA : ft_ia k b1 b2 g1_280 g2_280 s.heap.size H) (ls : Array Slot) (hl : lv_has ls 15 [(0, .ref (a)), (1, .int (x2)), (2, .long (s_L_digest r)), (4, .int ((ft_pz r x2))), (5, .int ((l_servedTotal (ft_nr r)))), (6, .int ((l_arrivedTotal (ft_nr r)))), (7, .int (y7_252)), (8, .int ((60 * (l_day (ft_nr r))) + (l_minute (ft_nr r)))), (9, .ref (b1)), (10, .ref (b2)), (11, .int (1)), (12, .int (y12_252)), (13, .int ((p_soldPortions (ft_nr (ft_pr r x2)) y12_252) - (g1_252 (tn y12_252)))), (14, .int (y14_280))]), W p l e (headSpec wsL_isPassing ({ frames := 12, cells := 2626, slots := 36488, locals := 277 })).room s m ([.ref a, .int x2] : List Value).toArray below meth c H locs (2139 + 14 * i_252 + 2 * i_280) (33566 + 84 * i_252 + 12 * i_280) (MQ below (ft_QR J D k Z sz a (jc0 + 2) (fun z u => z = 1 ∧ u.1 0 = σ.1 0 ∧ ft_zv σ u)) ([.ref a, .int x2] : List Value).toArray s 2626 36488 (ft_AL sz)) (F0 m 280 ls []) := by
                        intro hKx n_280
                        induction n_280 with
                        | zero => intro y14_280 g1_280 g2_280 i_280 hi_280 hm_280 hn_280; exact absurd hn_280 (by omega)
                        | succ n ih_280 =>
                          intro y14_280 g1_280 g2_280 i_280 hi_280 hm_280 hn_280 hv_280 H locs hP hS hA ls hl
                          have hm5_280 : i_280 ≤ 6 := Nat.le_trans hm_280 hbn_280
                          refine lv_iload hx hb dL_isPassing_280 (lv_at hl 13 rfl) ?_
                          refine lv_aload_n hx hb dL_isPassing_282 rfl (lv_at hl 0 rfl) ?_
                          refine vp_callSi (va_Run.run (va_runV (As := []) (rest := [.int (y14_280)]) ⟨hx, hb, hml, hown, hts⟩ (cl_truckCount l D Z k (ft_s2 sz b1 b2) a u_207_2) (cwV 0 hts gL_isPassing_X7_truckCount rfl rfl rfl (by decide +kernel) ⟨Nat.le_of_ble_eq_true rfl, Nat.le_of_ble_eq_true rfl⟩) (ft_preL2 hEL2.1 hz hA hS hP) rfl rfl hl.1 rfl (lv_room (Nat.le_of_ble_eq_true rfl)) dL_isPassing_283 ⟨(show 2139 + 14 * i_252 + 2 * i_280 + 0 ≤ 2626 by omega), (show 33566 + 84 * i_252 + 12 * i_280 + 0 ≤ 36488 by omega)⟩)) (fun z hz9 => ?_)
                          replace hz9 : z = l_truckCount (ft_nr (ft_pr r x2)) := hz9.trans (ft_ev (f := fun q9 => l_truckCount (ft_nr q9)) hq_u_207_2 rfl)
                          subst hz9
                          refine lv_icmp_ge (tgt := 311) hx hb dL_isPassing_286 (by decide) (fun c_286 => ?_) (fun c_286 => ?_)
                          · skip
                            refine W.widen (k := 2139 + 14 * i_252 + 12) (n := 33566 + 84 * i_252 + 72) (by omega) (by omega) ?_
                            exact hKx y14_280 g1_280 g2_280 i_280 hi_280 hm_280 (ft_exi hi_280 hm_280 c_286) hv_280 _ _ hP hS hA ls (lv_sub hl [0, 1, 2, 3, 4, 5, 6, 7, 8, 9, 10, 11, 12, 13] rfl)
                          · skip
                            have hlt_280 := ft_step hi_280 hm_280 c_286
                            have hl5_280 : i_280 + 1 ≤ 6 := Nat.le_trans hlt_280 hbn_280
                            refine lv_aload hx hb dL_isPassing_289 (lv_at hl 9 rfl) ?_
                            refine lv_iload hx hb dL_isPassing_291 (lv_at hl 11 rfl) ?_
                            refine lv_dup2_11 hx hb dL_isPassing_293 rfl rfl ?_
                            refine ft_ild2 hx hb hE.1.1 hA (ft_vin hi_252 hlt_252) dL_isPassing_294 ?_
                            refine lv_aload_n hx hb dL_isPassing_295 rfl (lv_at hl 0 rfl) ?_
                            refine lv_iload hx hb dL_isPassing_296 (lv_at hl 13 rfl) ?_
                            refine lv_iload hx hb dL_isPassing_298 (lv_at hl 11 rfl) ?_
                            refine va_calli (va_runV (As := [.int (y14_280), .int (y12_252)]) (rest := [.int ((g2_280 (tn y12_252))), .int (y12_252), .ref (b2)]) ⟨hx, hb, hml, hown, hts⟩ (ft_noX (z := p_stock (ft_nr (ft_pr r x2)) y14_280 y12_252) (cl_stock l hl0 D Z k (ft_s2 sz b1 b2) a u_207_2 y14_280 y12_252 ) (ft_ev (f := fun q9 => l_stock (ft_nr q9) y14_280 y12_252) hq_u_207_2 (ok_stock (hJ.dT hg_151_2 _ i_280 hi_280 hlt_280) (ft_nd hi_252 hl5_252)))) (cwV 2 hts gL_isPassing_X7_stock rfl rfl rfl (by decide +kernel) ⟨Nat.le_of_ble_eq_true rfl, Nat.le_of_ble_eq_true rfl⟩) (ft_preL2 hEL2.1 hz hA hS hP) rfl rfl hl.1 rfl (lv_room (Nat.le_of_ble_eq_true rfl)) dL_isPassing_300 ⟨(show 2139 + 14 * i_252 + 2 * i_280 + 2 ≤ 2626 by omega), (show 33566 + 84 * i_252 + 12 * i_280 + 12 ≤ 36488 by omega)⟩) hS (fun _ _ h => ft_AL2_le h) (fun _ h => ft_AL2_le h) (fun z u t H1 locs1 ht hvm hw hB hz1 hk1 hS1 => ?_)
                            obtain rfl : p_stock (ft_nr (ft_pr r x2)) y14_280 y12_252 = z := Eq.symm hw
                            rw [ht] at hB
                            have hP := hB
                            have hS := hS1
                            clear hS1
                            have hA := hA.kept hk1
                            generalize H1 = H at hP hS hA ⊢
                            refine W.widen (k := 2141 + 14 * i_252 + 2 * i_280) (n := 33578 + 84 * i_252 + 12 * i_280) (by omega) (by omega) ?_
                            refine lv_isub hx hb dL_isPassing_303 ?_
                            refine ft_ist2 hx hb hE.1.1 hA hP hS hz rfl (ft_vin hi_252 hlt_252) dL_isPassing_304 (fun H locs hA hP hS => ?_)
                            refine lv_iinc (v := y14_280 + 1) (lv' := [(14, .int (y14_280 + 1)), (0, .ref (a)), (1, .int (x2)), (2, .long (s_L_digest r)), (4, .int ((ft_pz r x2))), (5, .int ((l_servedTotal (ft_nr r)))), (6, .int ((l_arrivedTotal (ft_nr r)))), (7, .int (y7_252)), (8, .int ((60 * (l_day (ft_nr r))) + (l_minute (ft_nr r)))), (9, .ref (b1)), (10, .ref (b2)), (11, .int (1)), (12, .int (y12_252)), (13, .int ((p_soldPortions (ft_nr (ft_pr r x2)) y12_252) - (g1_252 (tn y12_252))))]) hx hb dL_isPassing_305 hl (k := 13) rfl rfl (by decide) rfl (fun ls hl => ?_)
                            refine lv_goto (tgt := 280) hx hb dL_isPassing_308 (by decide) ?_
                            refine W.widen (k := 2139 + 14 * i_252 + 2 * (i_280 + 1)) (n := 33566 + 84 * i_252 + 12 * (i_280 + 1)) (by omega) (by omega) ?_
                            exact ih_280 (y14_280 + 1) g1_280 (ft_ud g2_280 (tn y12_252) ((g2_280 (tn y12_252)) - (p_stock (ft_nr (ft_pr r x2)) y14_280 y12_252))) (i_280 + 1) (by rw [hi_280, nI_1]) hlt_280 (by omega) (⟨hv_280.1, by rw [hv_280.2, ft_ud_self, ft_ud_ud, hi_280]; rfl⟩) _ _ hP hS hA ls (lv_sub hl [1, 2, 3, 4, 5, 6, 7, 8, 9, 10, 11, 12, 13, 0] rfl)
                      refine W.widen (k := 2139 + 14 * i_252 + 2 * 0) (n := 33566 + 84 * i_252 + 12 * 0) (by omega) (by omega) ?_
                      refine loop_280 (fun y14_280 g1_280 g2_280 i_280 hi_280 hm_280 hx_280 hv_280 H locs hP hS hA ls hl => ?_) (tn (l_truckCount (ft_nr (ft_pr r x2))) + 1) 0 g1_252 g2_252 0 rfl (Nat.zero_le _) (by omega) (⟨rfl, (ft_ud_id rfl).symm⟩) _ _ hP hS hA ls (lv_sub hl [2, 3, 4, 5, 6, 7, 8, 9, 10, 11, 12, 13, 1, 0] rfl)
                      have hm5_280 : i_280 ≤ 6 := Nat.le_trans hm_280 hbn_280
                      refine W.widen (k := 2151 + 14 * i_252) (n := 33638 + 84 * i_252) (by omega) (by omega) ?_
                      refine lv_iload hx hb dL_isPassing_311 (lv_at hl 6 rfl) ?_
                      refine lv_iload hx hb dL_isPassing_313 (lv_at hl 12 rfl) ?_
                      refine lv_aload_n hx hb dL_isPassing_315 rfl (lv_at hl 0 rfl) ?_
                      refine lv_iload hx hb dL_isPassing_316 (lv_at hl 11 rfl) ?_
                      refine va_calli (va_runV (As := [.int (y12_252)]) (rest := [.int ((p_soldPortions (ft_nr (ft_pr r x2)) y12_252) - (g1_252 (tn y12_252))), .int (y7_252)]) ⟨hx, hb, hml, hown, hts⟩ (ft_noX (z := p_price (ft_nr (ft_pr r x2)) y12_252) (cl_price l hl0 D Z k (ft_s2 sz b1 b2) a u_207_2 y12_252 ) (ft_ev (f := fun q9 => l_price (ft_nr q9) y12_252) hq_u_207_2 (ok_price (ft_nd hi_252 hl5_252)))) (cwV 1 hts gL_isPassing_X7_price rfl rfl rfl (by decide +kernel) ⟨Nat.le_of_ble_eq_true rfl, Nat.le_of_ble_eq_true rfl⟩) (ft_preL2 hEL2.1 hz hA hS hP) rfl rfl hl.1 rfl (lv_room (Nat.le_of_ble_eq_true rfl)) dL_isPassing_318 ⟨(show 2151 + 14 * i_252 + 1 ≤ 2626 by omega), (show 33638 + 84 * i_252 + 6 ≤ 36488 by omega)⟩) hS (fun _ _ h => ft_AL2_le h) (fun _ h => ft_AL2_le h) (fun z u t H1 locs1 ht hvm hw hB hz1 hk1 hS1 => ?_)
                      obtain rfl : p_price (ft_nr (ft_pr r x2)) y12_252 = z := Eq.symm hw
                      rw [ht] at hB
                      have hP := hB
                      have hS := hS1
                      clear hS1
                      have hA := hA.kept hk1
                      generalize H1 = H at hP hS hA ⊢
                      refine W.widen (k := 2152 + 14 * i_252) (n := 33644 + 84 * i_252) (by omega) (by omega) ?_
                      refine lv_imul hx hb dL_isPassing_321 ?_
                      refine lv_isub hx hb dL_isPassing_322 ?_
                      refine lv_istore (lv' := [(7, .int (y7_252 - (((p_soldPortions (ft_nr (ft_pr r x2)) y12_252) - (g1_252 (tn y12_252))) * (p_price (ft_nr (ft_pr r x2)) y12_252)))), (0, .ref (a)), (1, .int (x2)), (2, .long (s_L_digest r)), (4, .int ((ft_pz r x2))), (5, .int ((l_servedTotal (ft_nr r)))), (6, .int ((l_arrivedTotal (ft_nr r)))), (8, .int ((60 * (l_day (ft_nr r))) + (l_minute (ft_nr r)))), (9, .ref (b1)), (10, .ref (b2)), (11, .int (1)), (12, .int (y12_252)), (13, .int ((p_soldPortions (ft_nr (ft_pr r x2)) y12_252) - (g1_252 (tn y12_252)))), (14, .int (y14_280))]) hx hb dL_isPassing_323 hl (by decide) rfl (fun ls hl => ?_)
                      refine lv_iload hx hb dL_isPassing_325 (lv_at hl 12 rfl) ?_
                      refine lv_aload hx hb dL_isPassing_327 (lv_at hl 9 rfl) ?_
                      refine lv_iload hx hb dL_isPassing_329 (lv_at hl 11 rfl) ?_
                      refine ft_ild2 hx hb hE.1.1 hA (ft_vin hi_252 hlt_252) dL_isPassing_331 ?_
                      refine lv_icmp_ne (tgt := 344) hx hb dL_isPassing_332 (by decide) (fun c_332 => ?_) (fun c_332 => ?_)
                      · skip
                        exact absurd ((by rw [hG_252, hv_280.2, ft_ud_self, hx_280, hS_252]; exact (hJ.p5 hg hg_151_2 hm _ i_252 hi_252 hl5_252).1)) c_332
                      · skip
                        refine lv_iload hx hb dL_isPassing_335 (lv_at hl 12 rfl) ?_
                        refine lv_if_lt (tgt := 344) hx hb dL_isPassing_337 (by decide) (fun c_337 => ?_) (fun c_337 => ?_)
                        · skip
                          exact absurd c_337 ((by rw [hG_252]; exact (hJ.p5 hg hg_151_2 hm _ i_252 hi_252 hl5_252).2))
                        · skip
                          refine lv_iconst (v := 1) hx hb dL_isPassing_340 (by decide) ?_
                          refine lv_goto (tgt := 345) hx hb dL_isPassing_341 (by decide) ?_
                          refine lv_istore (lv' := [(11, .int (1)), (7, .int (y7_252 - (((p_soldPortions (ft_nr (ft_pr r x2)) y12_252) - (g1_252 (tn y12_252))) * (p_price (ft_nr (ft_pr r x2)) y12_252)))), (0, .ref (a)), (1, .int (x2)), (2, .long (s_L_digest r)), (4, .int ((ft_pz r x2))), (5, .int ((l_servedTotal (ft_nr r)))), (6, .int ((l_arrivedTotal (ft_nr r)))), (8, .int ((60 * (l_day (ft_nr r))) + (l_minute (ft_nr r)))), (9, .ref (b1)), (10, .ref (b2)), (12, .int (y12_252)), (13, .int ((p_soldPortions (ft_nr (ft_pr r x2)) y12_252) - (g1_252 (tn y12_252)))), (14, .int (y14_280))]) hx hb dL_isPassing_345 hl (by decide) rfl (fun ls hl => ?_)
                          refine lv_iinc (v := y12_252 + 1) (lv' := [(12, .int (y12_252 + 1)), (11, .int (1)), (7, .int (y7_252 - (((p_soldPortions (ft_nr (ft_pr r x2)) y12_252) - (g1_252 (tn y12_252))) * (p_price (ft_nr (ft_pr r x2)) y12_252)))), (0, .ref (a)), (1, .int (x2)), (2, .long (s_L_digest r)), (4, .int ((ft_pz r x2))), (5, .int ((l_servedTotal (ft_nr r)))), (6, .int ((l_arrivedTotal (ft_nr r)))), (8, .int ((60 * (l_day (ft_nr r))) + (l_minute (ft_nr r)))), (9, .ref (b1)), (10, .ref (b2)), (13, .int ((p_soldPortions (ft_nr (ft_pr r x2)) y12_252) - (g1_252 (tn y12_252)))), (14, .int (y14_280))]) hx hb dL_isPassing_347 hl (k := 11) rfl rfl (by decide) rfl (fun ls hl => ?_)
                          refine lv_goto (tgt := 252) hx hb dL_isPassing_350 (by decide) ?_
                          refine W.widen (k := 2138 + 14 * (i_252 + 1)) (n := 33560 + 84 * (i_252 + 1)) (by omega) (by omega) ?_
                          exact ih_252 (y7_252 - (((p_soldPortions (ft_nr (ft_pr r x2)) y12_252) - (g1_252 (tn y12_252))) * (p_price (ft_nr (ft_pr r x2)) y12_252))) (y12_252 + 1) g1_280 g2_280 (i_252 + 1) (by rw [hi_252, nI_1]) hlt_252 (by omega) (⟨hv_280.1.trans hv_252.1, fun j hj9 => by rw [hv_280.2, ft_ud_ne (by rw [(ft_ti hi_252 hl5_252)]; omega)]; exact hv_252.2.1 j (by omega), by rw [hv_252.2.2, hG_252, hi_252]; rfl⟩) _ _ hP hS hA ls (lv_sub hl [3, 4, 5, 6, 7, 8, 2, 9, 10, 11, 1, 0] rfl)
              refine W.widen (k := 2138 + 14 * 0) (n := 33560 + 84 * 0) (by omega) (by omega) ?_
              refine loop_252 (fun y7_252 y12_252 g1_252 g2_252 i_252 hi_252 hm_252 hx_252 hv_252 H locs hP hS hA ls hl => ?_) (tn 4 + 1) y7_223 0 g1_54 g2_54 0 rfl (Nat.zero_le _) (by omega) (⟨rfl, fun _ _ => rfl, rfl⟩) _ _ hP hS hA ls (lv_sub hl [1, 2, 3, 4, 5, 6, 7, 8, 9, 10, 11, 0] rfl)
              have hm5_252 : i_252 ≤ 4 := hm_252
              refine W.widen (k := 2194) (n := 33896) (by omega) (by omega) ?_
              refine lv_iload hx hb dL_isPassing_353 (lv_at hl 10 rfl) ?_
              refine lv_if_eq (tgt := 383) hx hb dL_isPassing_355 (by decide) (fun c_355 => ?_) (fun c_355 => ?_)
              · skip
                first | exact absurd c_355 (by decide) | exact absurd (by decide) c_355
              · skip
                refine lv_iload hx hb dL_isPassing_358 (lv_at hl 6 rfl) ?_
                refine lv_if_ne (tgt := 383) hx hb dL_isPassing_360 (by decide) (fun c_360 => ?_) (fun c_360 => ?_)
                · skip
                  exact absurd ((by rw [hv_252.2.2, hx_252, hv_223, hx_223, hv_114, hx_114]; exact hJ.p6 hg hg_151_2 hm)) c_360
                · skip
                  refine lv_aload_n hx hb dL_isPassing_363 rfl (lv_at hl 0 rfl) ?_
                  refine va_calli (vx_runSW (As := [.ref (a)]) (rest := []) ⟨hx, hb, hml, hown, hts⟩ (d_L_undo l hl0 D Z k (ft_s2 sz b1 b2) a u_207_2 (hJ.pm hj_u_207_2) (hJ.ex_undo hj_u_207_2 (by omega))) (vx_cwSW 1 hts gL_isPassing_L_undo rfl rfl rfl (by decide +kernel) ⟨Nat.le_of_ble_eq_true rfl, Nat.le_of_ble_eq_true rfl⟩) (ft_preM2 hEL2 hz hA hS hP) rfl rfl hl.1 rfl (lv_room (Nat.le_of_ble_eq_true rfl)) dL_isPassing_364 ⟨Nat.le_of_ble_eq_true rfl, Nat.le_of_ble_eq_true rfl⟩) hS (fun _ _ h => ft_AL2_le h) (fun _ h => ft_AL2_le h) (fun z u t H1 locs1 ht hvm hw hB hz1 hk1 hS1 => ?_)
                  obtain ⟨rfl, rfl⟩ : z = (w_undo u_207_2).1 ∧ u = (w_undo u_207_2).2 := ⟨congrArg Prod.fst hw, congrArg Prod.snd hw⟩
                  rw [ht] at hB
                  have hP := hB
                  have hS := hS1
                  clear hS1
                  have hA := hA.kept hk1
                  generalize H1 = H at hP hS hA ⊢
                  refine W.widen (k := 2195) (n := 33902) (by omega) (by omega) ?_
                  have hJ_364_3 : J (jc0 + 2) (w_undo u_207_2).2 := hJ.mono (hJ.k_undo hj_u_207_2 (by omega)) (by omega)
                  have hq_364_4 : (w_undo u_207_2).2.1 0 = r := hU_207.2
                  have hg_364_4 : G r := hJ.gr hJ_364_3 (by omega) hq_364_4
                  have hv_364 : ft_zv σ ((w_undo u_207_2).2) := hv_207.tr (hJ.sv_undo hj_u_207_2)
                  refine lv_if_lt (tgt := 383) hx hb dL_isPassing_367 (by decide) (fun c_367 => ?_) (fun c_367 => ?_)
                  · skip
                    exact absurd c_367 (hU_207.1)
                  · skip
                    refine lv_aload_n hx hb dL_isPassing_370 rfl (lv_at hl 0 rfl) ?_
                    refine va_calll (va_runS (As := [.ref (a)]) (rest := []) ⟨hx, hb, hml, hown, hts⟩ (c_L_digest l hl0 D Z k (ft_s2 sz b1 b2) a ((w_undo u_207_2).2) r hq_364_4 (hJ.dN hg_364_4) (hJ.dT hg_364_4) (hJ.dQ hg_364_4) (hJ.dW hg_364_4)) (va_cwS 1 hts gL_isPassing_L_digest rfl rfl rfl (by decide +kernel) ⟨Nat.le_of_ble_eq_true rfl, Nat.le_of_ble_eq_true rfl⟩) (ft_preM2 hEL2 hz hA hS hP) rfl rfl hl.1 rfl (lv_room (Nat.le_of_ble_eq_true rfl)) dL_isPassing_371 ⟨Nat.le_of_ble_eq_true rfl, Nat.le_of_ble_eq_true rfl⟩) hS (fun _ _ h => ft_AL2_le h) (fun _ h => ft_AL2_le h) (fun z u t H1 locs1 ht hvm hw hB hz1 hk1 hS1 => ?_)
                    obtain rfl : z = (s_L_digest r) := hw
                    rw [ht] at hB
                    have hP := hB
                    have hS := hS1
                    clear hS1
                    have hA := hA.kept hk1
                    generalize H1 = H at hP hS hA ⊢
                    refine W.widen (k := 2626) (n := 36488) (by omega) (by omega) ?_
                    refine lv_lload_n hx hb dL_isPassing_374 rfl (lv_at hl 2 rfl) ?_
                    refine W.lcmp hx hb dL_isPassing_375 ?_
                    rw [ft_cmp0]
                    refine lv_if_ne (tgt := 383) hx hb dL_isPassing_376 (by decide) (fun c_376 => ?_) (fun c_376 => ?_)
                    · skip
                      first | exact absurd c_376 (by decide) | exact absurd (by decide) c_376
                    · skip
                      refine lv_iconst (v := 1) hx hb dL_isPassing_379 (by decide) ?_
                      refine lv_goto (tgt := 384) hx hb dL_isPassing_380 (by decide) ?_
                      refine W.widen (k := 2626) (n := 36488) (by omega) (by omega) ?_
                      exact W.zret (v := 1) hx hb hr (rfl) (fun t ht hW => ⟨⟨1, (w_undo u_207_2).2, rfl, ⟨⟨rfl, (hq_364_4).trans hq.symm, hv_364⟩, hJ.mono hJ_364_3 (by omega)⟩, by show ft_LW D k Z sz a _ t.heap; rw [ht]; exact hP.from2⟩, hS.F ht⟩) hS.2.2 dL_isPassing_384
