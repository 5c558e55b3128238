set_option maxHeartbeats 8000000 in
set_option maxRecDepth 100000 in
theorem law_B {p : Program} {e : Env} {s : State} {m : MethodId} {below : List Frame} {meth : Method} {c : Code} (l : Launch) (hl0 : l.stackTraces = false) (b L : Nat) (xs : Nat → Int32) (hL : L ≤ 260) (hx : p.tables.exec = Jvm.exec) (hb : c.code = code) (hr : meth.sig.returnType = ret) (hml : c.maxLocals = 9) (hown : s.vm.findClass RL = some m.cls) (hts : ∀ w ∈ wsL_law, w.before #[Value.ref b] s = true) (hX : va_X b L xs s s.heap) (hbl : b < s.heap.size) (hlocks : meth.locks = false) (D : va_G) (Z : Nat → Nat → Nat) (k : Nat → ClassId) (sz : ft_SZ) (a : Nat) (hEL : ft_EL D k Z (ft_AL sz) s) (hz : ft_sl sz s.heap.size) (hzs : s.heap.size ≤ sz.1) (J : Nat → ft_Sg → Prop) (G : (Nat → Int32) → Prop) (T : Nat → Nat → ft_Sg → Prop) (hJ : ft_JJ J G T) (σ : ft_Sg) (jc0 : Nat) (h0 : J jc0 σ) (hc : jc0 + 100 ≤ 1000) (v : Int32) (hv : tn v ≤ 36) (H : Heap) (locs : List Loc) (hP : ft_LW D k Z sz a σ H) (hS : va_S (ft_AL sz) s.heap H locs) (ls : Array Slot) (hl : lv_has ls 9 [(0, .ref (b)), (1, .ref (a))]) : W p l e room_1 s m #[Value.ref b] below meth c H locs 332 2318 (lw_Z below #[Value.ref b] s) (F0 m 128 ls [.int (v)]) := by
  have hE := hEL.1
  have hbA : ¬ ft_AL sz b := fun h => absurd h.1 (by omega)
  refine lv_istore_n (lv' := [(2, .int (v)), (0, .ref (b)), (1, .ref (a))]) hx hb dL_law_128 rfl hl (by decide) rfl (fun ls hl => ?_)
  refine lv_iconst (v := 0) hx hb dL_law_129 (by decide) ?_
  refine lv_istore_n (lv' := [(3, .int (0)), (2, .int (v)), (0, .ref (b)), (1, .ref (a))]) hx hb dL_law_130 rfl hl (by decide) rfl (fun ls hl => ?_)
  have hbn_131 : tn v ≤ 36 := hv
  have loop_131 : ∀ (hKx : ∀ (y3_131 : Int32) (σ131 : ft_Sg) (i_131 : Nat) (hi_131 : y3_131 = nI i_131) (hm_131 : i_131 ≤ tn v) (hx_131 : i_131 = tn v) (hj_131 : J (jc0 + 0 + 1 * i_131) σ131) (H : Heap) (locs : List Loc) (hP : ft_LW D k Z sz a σ131 H) (hS : va_S (ft_AL sz) s.heap H locs) (ls : Array Slot) (hl : lv_has ls 9 [(0, .ref (b)), (1, .ref (a)), (2, .int (v)), (3, .int (y3_131))]), W p l e room_1 s m #[Value.ref b] below meth c H locs (332 + 31968) (2318 + 321408) (lw_Z below #[Value.ref b] s) (F0 m 174 ls [])) (n_131 : Nat), ∀ (y3_131 : Int32) (σ131 : ft_Sg) (i_131 : Nat) (hi_131 : y3_131 = nI i_131) (hm_131 : i_131 ≤ tn v) (hn_131 : tn v < n_131 + i_131) (hj_131 : J (jc0 + 0 + 1 * i_131) σ131) (H : Heap) (locs : List Loc) (hP : ft_LW D k Z sz a σ131 H) (hS : va_S (ft_AL sz) s.heap H locs) (ls : Array Slot) (hl : lv_has ls 9 [(0, .ref (b)), (1, .ref (a)), (2, .int (v)), (3, .int (y3_131))]), W p l e room_1 s m #[Value.ref b] below meth c H locs (332 + 888 * i_131) (2318 + 8928 * i_131) (lw_Z below #[Value.ref b] s) (F0 m 131 ls []) := by
    intro hKx n_131
    induction n_131 with
    | zero => intro y3_131 σ131 i_131 hi_131 hm_131 hn_131; exact absurd hn_131 (by omega)
    | succ n ih_131 =>
      intro y3_131 σ131 i_131 hi_131 hm_131 hn_131 hj_131 H locs hP hS ls hl
      have hm5_131 : i_131 ≤ 36 := Nat.le_trans hm_131 hbn_131
      refine lv_iload_n hx hb dL_law_131 rfl (lv_at hl 3 rfl) ?_
      refine lv_iload_n hx hb dL_law_132 rfl (lv_at hl 2 rfl) ?_
      refine lv_icmp_ge (tgt := 174) hx hb dL_law_133 (by decide) (fun c_133 => ?_) (fun c_133 => ?_)
      · skip
        refine W.widen (k := 332 + 31968) (n := 2318 + 321408) (by omega) (by omega) ?_
        exact hKx y3_131 σ131 i_131 hi_131 hm_131 (ft_exi hi_131 hm_131 c_133) hj_131 _ _ hP hS ls (lv_sub hl [0, 1, 2, 3] rfl)
      · skip
        have hlt_131 := ft_step hi_131 hm_131 c_133
        have hl5_131 : i_131 + 1 ≤ 36 := Nat.le_trans hlt_131 hbn_131
        refine lv_aload_n hx hb dL_law_136 rfl (lv_at hl 1 rfl) ?_
        refine va_calll (va_runS (As := [.ref (a)]) (rest := []) ⟨hx, hb, hml, hown, hts⟩ (c_L_digest l hl0 D Z k sz a σ131 (σ131.1 0) (rfl : σ131.1 0 = σ131.1 0) (hJ.dN (hJ.gr hj_131 (by omega) rfl : G (σ131.1 0))) (hJ.dT (hJ.gr hj_131 (by omega) rfl : G (σ131.1 0))) (hJ.dQ (hJ.gr hj_131 (by omega) rfl : G (σ131.1 0))) (hJ.dW (hJ.gr hj_131 (by omega) rfl : G (σ131.1 0)))) (va_cwS 1 hts gL_law_L_digest rfl rfl rfl (by decide +kernel) ⟨Nat.le_of_ble_eq_true rfl, Nat.le_of_ble_eq_true rfl⟩) (ft_preM hEL hz hS hP) rfl rfl hl.1 rfl (lv_room (Nat.le_of_ble_eq_true rfl)) dL_law_137 ⟨(show 332 + 888 * i_131 + 431 ≤ room_1.cells from ft_rc (by omega)), (show 2318 + 8928 * i_131 + 2586 ≤ room_1.slots from ft_rs (by omega))⟩) hS (fun _ _ h => h) (fun _ h => h) (fun z u t H1 locs1 ht hvm hw hB hz1 hk1 hS1 => ?_)
        obtain rfl : z = (s_L_digest (σ131.1 0)) := hw
        rw [ht] at hB
        have hP := hB
        have hS := hS1
        clear hS1
        generalize H1 = H at hP hS ⊢
        refine W.widen (k := 763 + 888 * i_131) (n := 4904 + 8928 * i_131) (by omega) (by omega) ?_
        refine lv_lstore (lv' := [(4, .long (s_L_digest (σ131.1 0))), (0, .ref (b)), (1, .ref (a)), (2, .int (v)), (3, .int (y3_131))]) hx hb dL_law_140 hl (by decide) rfl (fun ls hl => ?_)
        refine lv_aload_n hx hb dL_law_142 rfl (lv_at hl 2 rfl) ?_
        refine lv_aload_n hx hb dL_law_143 rfl (lv_at hl 1 rfl) ?_
        refine lv_iload_n hx hb dL_law_144 rfl (lv_at hl 4 rfl) ?_
        refine vp_callSi (va_Run.run (va_runS (As := [.ref b, .int (y3_131)]) (rest := [.ref (a)]) ⟨hx, hb, hml, hown, hts⟩ (c_L_cell l b L xs hL y3_131) (va_cwS 2 hts gL_law_L_cell rfl rfl rfl (by decide +kernel) ⟨Nat.le_of_ble_eq_true rfl, Nat.le_of_ble_eq_true rfl⟩) (ft_preC hX hbl hbA hS) rfl rfl hl.1 rfl (lv_room (Nat.le_of_ble_eq_true rfl)) dL_law_145 ⟨(show 763 + 888 * i_131 + 0 ≤ room_1.cells from ft_rc (by omega)), (show 4904 + 8928 * i_131 + 0 ≤ room_1.slots from ft_rs (by omega))⟩)) (fun z_145 hz9 => ?_)
        clear hz9
        refine va_calli (va_runS (As := [.ref (a), .int (z_145)]) (rest := []) ⟨hx, hb, hml, hown, hts⟩ (c_L_act l hl0 D Z k sz a σ131 J G T hJ (jc0 + 0 + 1 * i_131) hj_131 (by omega) (σ131.1 0) (rfl : σ131.1 0 = σ131.1 0) z_145 ) (va_cwS 2 hts gL_law_L_act rfl rfl rfl (by decide +kernel) ⟨Nat.le_of_ble_eq_true rfl, Nat.le_of_ble_eq_true rfl⟩) (ft_preM hEL hz hS hP) rfl rfl hl.1 rfl (lv_room (Nat.le_of_ble_eq_true rfl)) dL_law_148 ⟨(show 763 + 888 * i_131 + 26 ≤ room_1.cells from ft_rc (by omega)), (show 4904 + 8928 * i_131 + 3756 ≤ room_1.slots from ft_rs (by omega))⟩) hS (fun _ _ h => h) (fun _ h => h) (fun z_u_148_0 u_148_0 t H1 locs1 ht hvm hw hB hz1 hk1 hS1 => ?_)
        obtain ⟨hp_u_148_0, hj_u_148_0⟩ := hw
        replace hj_u_148_0 : J (jc0 + 1 + 1 * i_131) u_148_0 := hJ.mono hj_u_148_0 (by omega)
        rw [ht] at hB
        have hP := hB
        have hS := hS1
        clear hS1
        generalize H1 = H at hP hS ⊢
        refine W.widen (k := 789 + 888 * i_131) (n := 8660 + 8928 * i_131) (by omega) (by omega) ?_
        have hg_u_148_0 : G (u_148_0.1 0) := hJ.gr hj_u_148_0 (by omega) rfl
        have hf_148 : _ := hp_u_148_0
        refine lv_ldc hx hb hown (hts (.constant RL 10 (-100000000)) (by decide +kernel)) dL_law_151 ?_
        refine lv_icmp_ne (tgt := 168) hx hb dL_law_153 (by decide) (fun c_153 => ?_) (fun c_153 => ?_)
        · skip
          refine lv_iinc (v := y3_131 + 1) (lv' := [(3, .int (y3_131 + 1)), (4, .long (s_L_digest (σ131.1 0))), (0, .ref (b)), (1, .ref (a)), (2, .int (v))]) hx hb dL_law_168 hl (k := 4) rfl rfl (by decide) rfl (fun ls hl => ?_)
          refine lv_goto (tgt := 131) hx hb dL_law_171 (by decide) ?_
          refine W.widen (k := 332 + 888 * (i_131 + 1)) (n := 2318 + 8928 * (i_131 + 1)) (by omega) (by omega) ?_
          exact ih_131 (y3_131 + 1) u_148_0 (i_131 + 1) (by rw [hi_131, nI_1]) hlt_131 (by omega) (show J (jc0 + 0 + 1 * (i_131 + 1)) u_148_0 from hJ.mono hj_u_148_0 (by omega))  _ _ hP hS ls (lv_sub hl [2, 3, 4, 0] rfl)
        · skip
          have hq_r156 : u_148_0.1 0 = (σ131.1 0) := hf_148 c_153
          have hg_r156 : G (σ131.1 0) := hJ.gr hj_u_148_0 (by omega) hq_r156
          refine lv_aload_n hx hb dL_law_156 rfl (lv_at hl 2 rfl) ?_
          refine va_calll (va_runS (As := [.ref (a)]) (rest := []) ⟨hx, hb, hml, hown, hts⟩ (c_L_digest l hl0 D Z k sz a u_148_0 (σ131.1 0) hq_r156 (hJ.dN hg_r156) (hJ.dT hg_r156) (hJ.dQ hg_r156) (hJ.dW hg_r156)) (va_cwS 1 hts gL_law_L_digest rfl rfl rfl (by decide +kernel) ⟨Nat.le_of_ble_eq_true rfl, Nat.le_of_ble_eq_true rfl⟩) (ft_preM hEL hz hS hP) rfl rfl hl.1 rfl (lv_room (Nat.le_of_ble_eq_true rfl)) dL_law_157 ⟨(show 789 + 888 * i_131 + 431 ≤ room_1.cells from ft_rc (by omega)), (show 8660 + 8928 * i_131 + 2586 ≤ room_1.slots from ft_rs (by omega))⟩) hS (fun _ _ h => h) (fun _ h => h) (fun z u t H1 locs1 ht hvm hw hB hz1 hk1 hS1 => ?_)
          obtain rfl : z = (s_L_digest (σ131.1 0)) := hw
          rw [ht] at hB
          have hP := hB
          have hS := hS1
          clear hS1
          generalize H1 = H at hP hS ⊢
          refine W.widen (k := 1220 + 888 * i_131) (n := 11246 + 8928 * i_131) (by omega) (by omega) ?_
          refine lv_lload hx hb dL_law_160 (lv_at hl 0 rfl) ?_
          refine W.lcmp hx hb dL_law_162 ?_
          rw [ft_cmp0]
          refine lv_if_eq (tgt := 168) hx hb dL_law_163 (by decide) (fun c_163 => ?_) (fun c_163 => ?_)
          · skip
            refine lv_iinc (v := y3_131 + 1) (lv' := [(3, .int (y3_131 + 1)), (4, .long (s_L_digest (σ131.1 0))), (0, .ref (b)), (1, .ref (a)), (2, .int (v))]) hx hb dL_law_168 hl (k := 4) rfl rfl (by decide) rfl (fun ls hl => ?_)
            refine lv_goto (tgt := 131) hx hb dL_law_171 (by decide) ?_
            refine W.widen (k := 332 + 888 * (i_131 + 1)) (n := 2318 + 8928 * (i_131 + 1)) (by omega) (by omega) ?_
            exact ih_131 (y3_131 + 1) u_148_0 (i_131 + 1) (by rw [hi_131, nI_1]) hlt_131 (by omega) (show J (jc0 + 0 + 1 * (i_131 + 1)) u_148_0 from hJ.mono hj_u_148_0 (by omega))  _ _ hP hS ls (lv_sub hl [2, 3, 4, 0] rfl)
          · skip
            first | exact absurd c_163 (by decide) | exact absurd (by decide) c_163
  refine W.widen (k := 332 + 888 * 0) (n := 2318 + 8928 * 0) (by omega) (by omega) ?_
  refine loop_131 (fun y3_131 σ131 i_131 hi_131 hm_131 hx_131 hj_131 H locs hP hS ls hl => ?_) (tn v + 1) 0 σ 0 rfl (Nat.zero_le _) (by omega) (show J (jc0 + 0 + 1 * 0) σ from hJ.mono h0 (by omega))  _ _ hP hS ls (lv_sub hl [2, 3, 1, 0] rfl)
  have hm5_131 : i_131 ≤ 36 := Nat.le_trans hm_131 hbn_131
  replace hj_131 : J (jc0 + 36) σ131 := hJ.mono hj_131 (by omega)
  refine W.widen (k := 32300) (n := 323726) (by omega) (by omega) ?_
  refine lv_aload_n hx hb dL_law_174 rfl (lv_at hl 1 rfl) ?_
  refine va_calli (va_runS (As := [.ref (a)]) (rest := []) ⟨hx, hb, hml, hown, hts⟩ (c_L_isFit l hl0 D Z k sz a σ131 J G T hJ (jc0 + 36) hj_131 (by omega) (σ131.1 0) (rfl : σ131.1 0 = σ131.1 0) ) (va_cwS 1 hts gL_law_L_isFit rfl rfl rfl (by decide +kernel) ⟨Nat.le_of_ble_eq_true rfl, Nat.le_of_ble_eq_true rfl⟩) (ft_preM hEL hz hS hP) rfl rfl hl.1 rfl (lv_room (Nat.le_of_ble_eq_true rfl)) dL_law_175 ⟨Nat.le_of_ble_eq_true rfl, Nat.le_of_ble_eq_true rfl⟩) hS (fun _ _ h => h) (fun _ h => h) (fun z u_175_1 t H1 locs1 ht hvm hw hB hz1 hk1 hS1 => ?_)
  obtain ⟨hp_u_175_1, hj_u_175_1⟩ := hw
  obtain ⟨hz_u_175_1, hp_u_175_1⟩ := hp_u_175_1
  subst hz_u_175_1
  replace hj_u_175_1 : J (jc0 + 42) u_175_1 := hJ.mono hj_u_175_1 (by omega)
  rw [ht] at hB
  have hP := hB
  have hS := hS1
  clear hS1
  generalize H1 = H at hP hS ⊢
  refine W.widen (k := 54752) (n := 675290) (by omega) (by omega) ?_
  have hg_u_175_1 : G (u_175_1.1 0) := hJ.gr hj_u_175_1 (by omega) rfl
  refine lv_istore_n (lv' := [(3, .int (1)), (0, .ref (b)), (1, .ref (a)), (2, .int (v))]) hx hb dL_law_178 rfl hl (by decide) rfl (fun ls hl => ?_)
  refine lv_aload_n hx hb dL_law_179 rfl (lv_at hl 2 rfl) ?_
  refine va_calli (vx_runSW (As := [.ref (a)]) (rest := []) ⟨hx, hb, hml, hown, hts⟩ (d_L_runScript l hl0 D Z k sz a u_175_1 (hJ.pm hj_u_175_1) (hJ.ok9 hj_u_175_1) (hJ.g9 hj_u_175_1) (hJ.ex_runScript hj_u_175_1 (by omega))) (vx_cwSW 1 hts gL_law_L_runScript rfl rfl rfl (by decide +kernel) ⟨Nat.le_of_ble_eq_true rfl, Nat.le_of_ble_eq_true rfl⟩) (ft_preM hEL hz hS hP) rfl rfl hl.1 rfl (lv_room (Nat.le_of_ble_eq_true rfl)) dL_law_180 ⟨Nat.le_of_ble_eq_true rfl, Nat.le_of_ble_eq_true rfl⟩) hS (fun _ _ h => h) (fun _ h => h) (fun z u t H1 locs1 ht hvm hw hB hz1 hk1 hS1 => ?_)
  obtain ⟨rfl, rfl⟩ : z = (w_runScript u_175_1).1 ∧ u = (w_runScript u_175_1).2 := ⟨congrArg Prod.fst hw, congrArg Prod.snd hw⟩
  rw [ht] at hB
  have hP := hB
  have hS := hS1
  clear hS1
  generalize H1 = H at hP hS ⊢
  refine W.widen (k := 54753) (n := 675296) (by omega) (by omega) ?_
  have hJ_180_2 : J (jc0 + 43) (w_runScript u_175_1).2 := hJ.mono (hJ.k_runScript hj_u_175_1 (by omega)) (by omega)
  have hq_180_3 : (w_runScript u_175_1).2.1 0 = ((w_runScript u_175_1).2.1 0) := rfl
  have hg_180_3 : G ((w_runScript u_175_1).2.1 0) := hJ.gr hJ_180_2 (by omega) hq_180_3
  have he_180 : ((w_runScript u_175_1).2).2.2.1 6 = 0 := hJ.e_runScript hj_u_175_1
  refine lv_pop hx hb dL_law_183 rfl ?_
  obtain ⟨r0, hr0⟩ : ∃ q : Nat → Int32, ((w_runScript u_175_1).2).1 0 = q := ⟨_, rfl⟩
  have hg_r0 : G r0 := hJ.gr hJ_180_2 (by omega) hr0
  refine lv_aload_n hx hb dL_law_184 rfl (lv_at hl 2 rfl) ?_
  refine va_calll (va_runS (As := [.ref (a)]) (rest := []) ⟨hx, hb, hml, hown, hts⟩ (c_L_digest l hl0 D Z k sz a ((w_runScript u_175_1).2) r0 hr0 (hJ.dN hg_r0) (hJ.dT hg_r0) (hJ.dQ hg_r0) (hJ.dW hg_r0)) (va_cwS 1 hts gL_law_L_digest rfl rfl rfl (by decide +kernel) ⟨Nat.le_of_ble_eq_true rfl, Nat.le_of_ble_eq_true rfl⟩) (ft_preM hEL hz hS hP) rfl rfl hl.1 rfl (lv_room (Nat.le_of_ble_eq_true rfl)) dL_law_185 ⟨Nat.le_of_ble_eq_true rfl, Nat.le_of_ble_eq_true rfl⟩) hS (fun _ _ h => h) (fun _ h => h) (fun z u t H1 locs1 ht hvm hw hB hz1 hk1 hS1 => ?_)
  obtain rfl : z = (s_L_digest r0) := hw
  rw [ht] at hB
  have hP := hB
  have hS := hS1
  clear hS1
  generalize H1 = H at hP hS ⊢
  refine W.widen (k := 55184) (n := 677882) (by omega) (by omega) ?_
  refine lv_lstore (lv' := [(4, .long (s_L_digest r0)), (3, .int (1)), (0, .ref (b)), (1, .ref (a)), (2, .int (v))]) hx hb dL_law_188 hl (by decide) rfl (fun ls hl => ?_)
  refine lv_aload_n hx hb dL_law_190 rfl (lv_at hl 3 rfl) ?_
  refine va_calli (va_runV (As := []) (rest := []) ⟨hx, hb, hml, hown, hts⟩ (cl_save l D Z k sz a ((w_runScript u_175_1).2)) (cwV 0 hts gL_law_X7_save rfl rfl rfl (by decide +kernel) ⟨Nat.le_of_ble_eq_true rfl, Nat.le_of_ble_eq_true rfl⟩) (ft_preL hE hz hS hP) rfl rfl hl.1 rfl (lv_room (Nat.le_of_ble_eq_true rfl)) dL_law_191 ⟨Nat.le_of_ble_eq_true rfl, Nat.le_of_ble_eq_true rfl⟩) hS (fun _ _ h => h) (fun _ h => h) (fun z u t H1 locs1 ht hvm hw hB hz1 hk1 hS1 => ?_)
  obtain ⟨rfl, rfl⟩ : z = (l_truckCount (ft_nr r0)) ∧ u = (l_save ((w_runScript u_175_1).2)).2 := ⟨(congrArg Prod.fst hw).trans ((hJ.sa hJ_180_2 (by omega)).1.trans (congrArg (fun q9 => l_truckCount (ft_nr q9)) hr0)), congrArg Prod.snd hw⟩
  rw [ht] at hB
  have hP := hB
  have hS := hS1
  clear hS1
  generalize H1 = H at hP hS ⊢
  refine W.widen (k := 55184) (n := 677882) (by omega) (by omega) ?_
  have hJ_191_3 : J (jc0 + 43) (l_save ((w_runScript u_175_1).2)).2 := hJ.mono (hJ.k_save hJ_180_2 (by omega)) (by omega)
  have hq_191_4 : (l_save ((w_runScript u_175_1).2)).2.1 0 = r0 := (hJ.r_save).trans hr0
  have hn_191 : ((l_save ((w_runScript u_175_1).2)).2).1 2 = r0 ∧ ((l_save ((w_runScript u_175_1).2)).2).2.2.1 0 = 1 ∧ ((l_save ((w_runScript u_175_1).2)).2).2.2.1 6 = 0 := ⟨(hJ.sa hJ_180_2 (by omega)).2.1.trans hr0, (hJ.sa hJ_180_2 (by omega)).2.2.1, (hJ.sa hJ_180_2 (by omega)).2.2.2.trans he_180⟩
  refine lv_istore (lv' := [(6, .int ((l_truckCount (ft_nr r0)))), (4, .long (s_L_digest r0)), (3, .int (1)), (0, .ref (b)), (1, .ref (a)), (2, .int (v))]) hx hb dL_law_194 hl (by decide) rfl (fun ls hl => ?_)
  refine lv_iconst (v := 0) hx hb dL_law_196 (by decide) ?_
  refine lv_istore (lv' := [(7, .int (0)), (6, .int ((l_truckCount (ft_nr r0)))), (4, .long (s_L_digest r0)), (3, .int (1)), (0, .ref (b)), (1, .ref (a)), (2, .int (v))]) hx hb dL_law_197 hl (by decide) rfl (fun ls hl => ?_)
  have loop_199 : ∀ (hKx : ∀ (y7_199 : Int32) (σ199 : ft_Sg) (i_199 : Nat) (hi_199 : y7_199 = nI i_199) (hm_199 : i_199 ≤ tn 28) (hx_199 : i_199 = tn 28) (hj_199 : J (jc0 + 43 + 1 * i_199) σ199) (hq_199 : σ199.1 0 = r0) (hv_199 : σ199.1 2 = r0 ∧ σ199.2.2.1 0 = 1 ∧ σ199.2.2.1 6 = 0) (H : Heap) (locs : List Loc) (hP : ft_LW D k Z sz a σ199 H) (hS : va_S (ft_AL sz) s.heap H locs) (ls : Array Slot) (hl : lv_has ls 9 [(0, .ref (b)), (1, .ref (a)), (3, .int (1)), (4, .long (s_L_digest r0)), (6, .int ((l_truckCount (ft_nr r0)))), (7, .int (y7_199))]), W p l e room_1 s m #[Value.ref b] below meth c H locs (55184 + 46676) (677882 + 961464) (lw_Z below #[Value.ref b] s) (F0 m 280 ls [])) (n_199 : Nat), ∀ (y7_199 : Int32) (σ199 : ft_Sg) (i_199 : Nat) (hi_199 : y7_199 = nI i_199) (hm_199 : i_199 ≤ tn 28) (hn_199 : tn 28 < n_199 + i_199) (hj_199 : J (jc0 + 43 + 1 * i_199) σ199) (hq_199 : σ199.1 0 = r0) (hv_199 : σ199.1 2 = r0 ∧ σ199.2.2.1 0 = 1 ∧ σ199.2.2.1 6 = 0) (H : Heap) (locs : List Loc) (hP : ft_LW D k Z sz a σ199 H) (hS : va_S (ft_AL sz) s.heap H locs) (ls : Array Slot) (hl : lv_has ls 9 [(0, .ref (b)), (1, .ref (a)), (3, .int (1)), (4, .long (s_L_digest r0)), (6, .int ((l_truckCount (ft_nr r0)))), (7, .int (y7_199))]), W p l e room_1 s m #[Value.ref b] below meth c H locs (55184 + 1667 * i_199) (677882 + 34338 * i_199) (lw_Z below #[Value.ref b] s) (F0 m 199 ls []) := by
    intro hKx n_199
    induction n_199 with
    | zero => intro y7_199 σ199 i_199 hi_199 hm_199 hn_199; exact absurd hn_199 (by omega)
    | succ n ih_199 =>
      intro y7_199 σ199 i_199 hi_199 hm_199 hn_199 hj_199 hq_199 hv_199 H locs hP hS ls hl
      have hm5_199 : i_199 ≤ 28 := hm_199
      refine lv_iload_n hx hb dL_law_199 rfl (lv_at hl 2 rfl) ?_
      refine lv_if_eq (tgt := 280) hx hb dL_law_200 (by decide) (fun c_200 => ?_) (fun c_200 => ?_)
      · skip
        first | exact absurd c_200 (by decide) | exact absurd (by decide) c_200
      · skip
        refine lv_iload hx hb dL_law_203 (lv_at hl 5 rfl) ?_
        refine va_gets (C := RL) hx hb hEL.2.2.2.1.1 hS hown (hts (.fieldLink RL 140 "FoodTruckRotaLaw" "SCRIPTS" "[Ljava/lang/String;") (by decide +kernel)) (fun _ h9 => h9) dL_law_205 ?_
        refine va_tlen (v := 28) hx hb hEL.2.2.2.1.2.1 hS rfl dL_law_208 ?_
        refine lv_icmp_ge (tgt := 280) hx hb dL_law_209 (by decide) (fun c_209 => ?_) (fun c_209 => ?_)
        · skip
          refine W.widen (k := 55184 + 46676) (n := 677882 + 961464) (by omega) (by omega) ?_
          exact hKx y7_199 σ199 i_199 hi_199 hm_199 (ft_exi hi_199 hm_199 c_209) hj_199 hq_199 hv_199 _ _ hP hS ls (lv_sub hl [0, 1, 2, 3, 4, 5] rfl)
        · skip
          have hlt_199 := ft_step hi_199 hm_199 c_209
          have hl5_199 : i_199 + 1 ≤ 28 := hlt_199
          refine lv_aload_n hx hb dL_law_212 rfl (lv_at hl 1 rfl) ?_
          refine va_gets (C := RL) hx hb hEL.2.2.2.1.1 hS hown (hts (.fieldLink RL 140 "FoodTruckRotaLaw" "SCRIPTS" "[Ljava/lang/String;") (by decide +kernel)) (fun _ h9 => h9) dL_law_213 ?_
          refine lv_iload hx hb dL_law_216 (lv_at hl 5 rfl) ?_
          have hj_218 : vp_in y7_199 28 := ft_vin hi_199 hlt_199
          obtain ⟨cell_218, ha_218, hb_218, hc_218, hd_218, he_218⟩ := ft_tcell hEL.2.2.2.1.2.1 hS hj_218
          refine W.aald (v := .ref (Z 4 (tn y7_199))) (ty := .object RJ0) hx hb ha_218 hb_218 rfl hc_218 hd_218 he_218 rfl rfl dL_law_218 ?_
          refine W.eq (g2 := F0 m 219 ls [.ref (Z 4 (tn y7_199)), .ref (a)]) rfl ?_
          refine va_callr (va_runS (As := [.ref (a), .ref (Z 4 (tn y7_199))]) (rest := []) ⟨hx, hb, hml, hown, hts⟩ (c_L_write l hl0 D Z k sz a σ199 J G T hJ (jc0 + 43 + 1 * i_199) hj_199 (by omega) r0 hq_199 (tn y7_199) (ft_tn hj_218) ) (va_cwS 2 hts gL_law_L_write rfl rfl rfl (by decide +kernel) ⟨Nat.le_of_ble_eq_true rfl, Nat.le_of_ble_eq_true rfl⟩) (ft_preM hEL hz hS hP) rfl rfl hl.1 rfl (lv_room (Nat.le_of_ble_eq_true rfl)) dL_law_219 ⟨(show 55184 + 1667 * i_199 + 25 ≤ room_1.cells from ft_rc (by omega)), (show 677882 + 34338 * i_199 + 3750 ≤ room_1.slots from ft_rs (by omega))⟩) hS (fun _ _ h => h) (fun _ h => h) (fun u_219_4 ra t H1 locs1 ht hvm hw hB hz1 hk1 hS1 => ?_)
          obtain ⟨hp_u_219_4, hj_u_219_4⟩ := hw
          obtain ⟨hra, hB⟩ := hB
          replace hra := hra.symm
          subst hra
          replace hj_u_219_4 : J (jc0 + 43 + 1 * i_199) u_219_4 := hJ.mono hj_u_219_4 (by omega)
          rw [ht] at hB
          have hP := hB
          have hS := hS1
          clear hS1
          generalize H1 = H at hP hS ⊢
          refine W.widen (k := 55209 + 1667 * i_199) (n := 681632 + 34338 * i_199) (by omega) (by omega) ?_
          have hq_u_219_4 : u_219_4.1 0 = r0 := (ft_zp.row (hp_u_219_4).1).trans hq_199
          have hT_219 : T (tn y7_199) (ft_scn.getD (tn y7_199) 0) u_219_4 := (hp_u_219_4).2 (hJ.tx0 hj_199 hv_199.2.2 (ft_tn hj_218))
          have hv_219 : u_219_4.1 2 = r0 ∧ u_219_4.2.2.1 0 = 1 := ⟨(congrFun (hp_u_219_4).1.1 2).trans hv_199.1, (hp_u_219_4).1.2.2.1.trans hv_199.2.1⟩
          have hq_219 : u_219_4.1 0 = r0 := (ft_zp.row (hp_u_219_4).1).trans hq_199
          refine va_calli (vx_runSW (As := [.ref (a)]) (rest := []) ⟨hx, hb, hml, hown, hts⟩ (d_L_runScript l hl0 D Z k sz a u_219_4 (hJ.pm hj_u_219_4) (hJ.ok9 hj_u_219_4) (hJ.g9 hj_u_219_4) (hJ.ex_runScript hj_u_219_4 (by omega))) (vx_cwSW 1 hts gL_law_L_runScript rfl rfl rfl (by decide +kernel) ⟨Nat.le_of_ble_eq_true rfl, Nat.le_of_ble_eq_true rfl⟩) (ft_preM hEL hz hS hP) rfl rfl hl.1 rfl (lv_room (Nat.le_of_ble_eq_true rfl)) dL_law_222 ⟨(show 55209 + 1667 * i_199 + 1 ≤ room_1.cells from ft_rc (by omega)), (show 681632 + 34338 * i_199 + 6 ≤ room_1.slots from ft_rs (by omega))⟩) hS (fun _ _ h => h) (fun _ h => h) (fun z u t H1 locs1 ht hvm hw hB hz1 hk1 hS1 => ?_)
          obtain ⟨rfl, rfl⟩ : z = (w_runScript u_219_4).1 ∧ u = (w_runScript u_219_4).2 := ⟨congrArg Prod.fst hw, congrArg Prod.snd hw⟩
          rw [ht] at hB
          have hP := hB
          have hS := hS1
          clear hS1
          generalize H1 = H at hP hS ⊢
          refine W.widen (k := 55210 + 1667 * i_199) (n := 681638 + 34338 * i_199) (by omega) (by omega) ?_
          have hJ_222_5 : J (jc0 + 44 + 1 * i_199) (w_runScript u_219_4).2 := hJ.mono (hJ.k_runScript hj_u_219_4 (by omega)) (by omega)
          have hq_222_6 : (w_runScript u_219_4).2.1 0 = ((w_runScript u_219_4).2.1 0) := rfl
          have hg_222_6 : G ((w_runScript u_219_4).2.1 0) := hJ.gr hJ_222_5 (by omega) hq_222_6
          have hs_222 : _ := hJ.sc hj_u_219_4 (by omega) (ft_tn hj_218) hT_219
          have hv_222 : ((w_runScript u_219_4).2).1 2 = r0 ∧ ((w_runScript u_219_4).2).2.2.1 0 = 1 ∧ ((w_runScript u_219_4).2).2.2.1 6 = 0 := ⟨(hJ.sv_runScript hj_u_219_4).1.trans hv_219.1, (hJ.sv_runScript hj_u_219_4).2.trans hv_219.2, hJ.e_runScript hj_u_219_4⟩
          refine lv_istore (lv' := [(8, .int (((w_runScript u_219_4).1))), (0, .ref (b)), (1, .ref (a)), (3, .int (1)), (4, .long (s_L_digest r0)), (6, .int ((l_truckCount (ft_nr r0)))), (7, .int (y7_199))]) hx hb dL_law_225 hl (by decide) rfl (fun ls hl => ?_)
          refine lv_iload hx hb dL_law_227 (lv_at hl 0 rfl) ?_
          refine lv_ldc hx hb hown (hts (.constant RL 10 (-100000000)) (by decide +kernel)) dL_law_229 ?_
          refine lv_icmp_ne (tgt := 244) hx hb dL_law_231 (by decide) (fun c_231 => ?_) (fun c_231 => ?_)
          · skip
            refine lv_aload_n hx hb dL_law_244 rfl (lv_at hl 2 rfl) ?_
            refine va_calli (va_runS (As := [.ref (a)]) (rest := []) ⟨hx, hb, hml, hown, hts⟩ (c_L_areTrucks l hl0 D Z k sz a ((w_runScript u_219_4).2) J G T hJ (jc0 + 44 + 1 * i_199) hJ_222_5 (by omega) ((w_runScript u_219_4).2.1 0) hq_222_6 ) (va_cwS 1 hts gL_law_L_areTrucks rfl rfl rfl (by decide +kernel) ⟨Nat.le_of_ble_eq_true rfl, Nat.le_of_ble_eq_true rfl⟩) (ft_preM hEL hz hS hP) rfl rfl hl.1 rfl (lv_room (Nat.le_of_ble_eq_true rfl)) dL_law_245 ⟨(show 55210 + 1667 * i_199 + 1208 ≤ room_1.cells from ft_rc (by omega)), (show 681638 + 34338 * i_199 + 27984 ≤ room_1.slots from ft_rs (by omega))⟩) hS (fun _ _ h => h) (fun _ h => h) (fun z u_245_6 t H1 locs1 ht hvm hw hB hz1 hk1 hS1 => ?_)
            obtain ⟨hp_u_245_6, hj_u_245_6⟩ := hw
            obtain ⟨hz_u_245_6, hp_u_245_6⟩ := hp_u_245_6
            subst hz_u_245_6
            replace hj_u_245_6 : J (jc0 + 44 + 1 * i_199) u_245_6 := hJ.mono hj_u_245_6 (by omega)
            rw [ht] at hB
            have hP := hB
            have hS := hS1
            clear hS1
            generalize H1 = H at hP hS ⊢
            refine W.widen (k := 56418 + 1667 * i_199) (n := 709622 + 34338 * i_199) (by omega) (by omega) ?_
            have hq_u_245_6 : u_245_6.1 0 = ((w_runScript u_219_4).2.1 0) := (ft_zm.row hp_u_245_6).trans hq_222_6
            have hU_245 : ft_U r0 u_245_6 := hJ.uU (by rw [← hq_219]; exact hs_222.2 c_231) hp_u_245_6
            have hv_245 : u_245_6.1 2 = r0 ∧ u_245_6.2.2.1 0 = 1 ∧ u_245_6.2.2.1 6 = 0 := ⟨(congrFun (hp_u_245_6).1 2).trans hv_222.1, (hp_u_245_6).2.2.1.trans hv_222.2.1, (hp_u_245_6).2.2.2.2.2.trans hv_222.2.2⟩
            refine lv_if_eq (tgt := 272) hx hb dL_law_248 (by decide) (fun c_248 => ?_) (fun c_248 => ?_)
            · skip
              first | exact absurd c_248 (by decide) | exact absurd (by decide) c_248
            · skip
              refine lv_aload_n hx hb dL_law_251 rfl (lv_at hl 2 rfl) ?_
              refine va_calli (vx_runSW (As := [.ref (a)]) (rest := []) ⟨hx, hb, hml, hown, hts⟩ (d_L_undo l hl0 D Z k sz a u_245_6 (hJ.pm hj_u_245_6) (hJ.ex_undo hj_u_245_6 (by omega))) (vx_cwSW 1 hts gL_law_L_undo rfl rfl rfl (by decide +kernel) ⟨Nat.le_of_ble_eq_true rfl, Nat.le_of_ble_eq_true rfl⟩) (ft_preM hEL hz hS hP) rfl rfl hl.1 rfl (lv_room (Nat.le_of_ble_eq_true rfl)) dL_law_252 ⟨(show 56418 + 1667 * i_199 + 1 ≤ room_1.cells from ft_rc (by omega)), (show 709622 + 34338 * i_199 + 6 ≤ room_1.slots from ft_rs (by omega))⟩) hS (fun _ _ h => h) (fun _ h => h) (fun z u t H1 locs1 ht hvm hw hB hz1 hk1 hS1 => ?_)
              obtain ⟨rfl, rfl⟩ : z = (w_undo u_245_6).1 ∧ u = (w_undo u_245_6).2 := ⟨congrArg Prod.fst hw, congrArg Prod.snd hw⟩
              rw [ht] at hB
              have hP := hB
              have hS := hS1
              clear hS1
              generalize H1 = H at hP hS ⊢
              refine W.widen (k := 56419 + 1667 * i_199) (n := 709628 + 34338 * i_199) (by omega) (by omega) ?_
              have hJ_252_7 : J (jc0 + 44 + 1 * i_199) (w_undo u_245_6).2 := hJ.mono (hJ.k_undo hj_u_245_6 (by omega)) (by omega)
              have hq_252_8 : (w_undo u_245_6).2.1 0 = r0 := hU_245.2
              have hg_252_8 : G r0 := hJ.gr hJ_252_7 (by omega) hq_252_8
              have hv_252 : ((w_undo u_245_6).2).1 2 = r0 ∧ ((w_undo u_245_6).2).2.2.1 0 = 1 ∧ ((w_undo u_245_6).2).2.2.1 6 = 0 := ⟨(hJ.sv_undo hj_u_245_6).1.trans hv_245.1, (hJ.sv_undo hj_u_245_6).2.trans hv_245.2.1, (hJ.e_undo).trans hv_245.2.2⟩
              refine lv_if_lt (tgt := 272) hx hb dL_law_255 (by decide) (fun c_255 => ?_) (fun c_255 => ?_)
              · skip
                exact absurd c_255 (hU_245.1)
              · skip
                refine lv_aload_n hx hb dL_law_258 rfl (lv_at hl 2 rfl) ?_
                refine va_calll (va_runS (As := [.ref (a)]) (rest := []) ⟨hx, hb, hml, hown, hts⟩ (c_L_digest l hl0 D Z k sz a ((w_undo u_245_6).2) r0 hq_252_8 (hJ.dN hg_252_8) (hJ.dT hg_252_8) (hJ.dQ hg_252_8) (hJ.dW hg_252_8)) (va_cwS 1 hts gL_law_L_digest rfl rfl rfl (by decide +kernel) ⟨Nat.le_of_ble_eq_true rfl, Nat.le_of_ble_eq_true rfl⟩) (ft_preM hEL hz hS hP) rfl rfl hl.1 rfl (lv_room (Nat.le_of_ble_eq_true rfl)) dL_law_259 ⟨(show 56419 + 1667 * i_199 + 431 ≤ room_1.cells from ft_rc (by omega)), (show 709628 + 34338 * i_199 + 2586 ≤ room_1.slots from ft_rs (by omega))⟩) hS (fun _ _ h => h) (fun _ h => h) (fun z u t H1 locs1 ht hvm hw hB hz1 hk1 hS1 => ?_)
                obtain rfl : z = (s_L_digest r0) := hw
                rw [ht] at hB
                have hP := hB
                have hS := hS1
                clear hS1
                generalize H1 = H at hP hS ⊢
                refine W.widen (k := 56850 + 1667 * i_199) (n := 712214 + 34338 * i_199) (by omega) (by omega) ?_
                refine lv_lload hx hb dL_law_262 (lv_at hl 4 rfl) ?_
                refine W.lcmp hx hb dL_law_264 ?_
                rw [ft_cmp0]
                refine lv_if_ne (tgt := 272) hx hb dL_law_265 (by decide) (fun c_265 => ?_) (fun c_265 => ?_)
                · skip
                  first | exact absurd c_265 (by decide) | exact absurd (by decide) c_265
                · skip
                  refine lv_iconst (v := 1) hx hb dL_law_268 (by decide) ?_
                  refine lv_goto (tgt := 273) hx hb dL_law_269 (by decide) ?_
                  refine lv_istore_n (lv' := [(3, .int (1)), (8, .int (((w_runScript u_219_4).1))), (0, .ref (b)), (1, .ref (a)), (4, .long (s_L_digest r0)), (6, .int ((l_truckCount (ft_nr r0)))), (7, .int (y7_199))]) hx hb dL_law_273 rfl hl (by decide) rfl (fun ls hl => ?_)
                  refine lv_iinc (v := y7_199 + 1) (lv' := [(7, .int (y7_199 + 1)), (3, .int (1)), (8, .int (((w_runScript u_219_4).1))), (0, .ref (b)), (1, .ref (a)), (4, .long (s_L_digest r0)), (6, .int ((l_truckCount (ft_nr r0))))]) hx hb dL_law_274 hl (k := 6) rfl rfl (by decide) rfl (fun ls hl => ?_)
                  refine lv_goto (tgt := 199) hx hb dL_law_277 (by decide) ?_
                  refine W.widen (k := 55184 + 1667 * (i_199 + 1)) (n := 677882 + 34338 * (i_199 + 1)) (by omega) (by omega) ?_
                  exact ih_199 (y7_199 + 1) ((w_undo u_245_6).2) (i_199 + 1) (by rw [hi_199, nI_1]) hlt_199 (by omega) (show J (jc0 + 43 + 1 * (i_199 + 1)) ((w_undo u_245_6).2) from hJ.mono hJ_252_7 (by omega)) hq_252_8 (by first | exact hv_252 | exact hv_222) _ _ hP hS ls (lv_sub hl [3, 4, 1, 5, 6, 0] rfl)
          · skip
            refine lv_aload_n hx hb dL_law_234 rfl (lv_at hl 2 rfl) ?_
            refine va_calli (vx_runSW (As := [.ref (a)]) (rest := []) ⟨hx, hb, hml, hown, hts⟩ (d_L_failedCommand l hl0 D Z k sz a ((w_runScript u_219_4).2) (ex_failedCommand)) (vx_cwSW 1 hts gL_law_L_failedCommand rfl rfl rfl (by decide +kernel) ⟨Nat.le_of_ble_eq_true rfl, Nat.le_of_ble_eq_true rfl⟩) (ft_preM hEL hz hS hP) rfl rfl hl.1 rfl (lv_room (Nat.le_of_ble_eq_true rfl)) dL_law_235 ⟨(show 55210 + 1667 * i_199 + 1 ≤ room_1.cells from ft_rc (by omega)), (show 681638 + 34338 * i_199 + 6 ≤ room_1.slots from ft_rs (by omega))⟩) hS (fun _ _ h => h) (fun _ h => h) (fun z u t H1 locs1 ht hvm hw hB hz1 hk1 hS1 => ?_)
            obtain rfl : z = w_failedCommand ((w_runScript u_219_4).2) := hw
            rw [ht] at hB
            have hP := hB
            have hS := hS1
            clear hS1
            generalize H1 = H at hP hS ⊢
            refine W.widen (k := 55211 + 1667 * i_199) (n := 681644 + 34338 * i_199) (by omega) (by omega) ?_
            refine lv_if_lt (tgt := 272) hx hb dL_law_238 (by decide) (fun c_238 => ?_) (fun c_238 => ?_)
            · skip
              exact absurd c_238 ((hs_222.1 c_231).2)
            · skip
              have hq_r241 : ((w_runScript u_219_4).2).1 0 = r0 := (hs_222.1 c_231).1.trans hq_219
              have hg_r241 : G r0 := hJ.gr hJ_222_5 (by omega) hq_r241
              refine lv_goto (tgt := 258) hx hb dL_law_241 (by decide) ?_
              refine lv_aload_n hx hb dL_law_258 rfl (lv_at hl 2 rfl) ?_
              refine va_calll (va_runS (As := [.ref (a)]) (rest := []) ⟨hx, hb, hml, hown, hts⟩ (c_L_digest l hl0 D Z k sz a ((w_runScript u_219_4).2) r0 hq_r241 (hJ.dN hg_r241) (hJ.dT hg_r241) (hJ.dQ hg_r241) (hJ.dW hg_r241)) (va_cwS 1 hts gL_law_L_digest rfl rfl rfl (by decide +kernel) ⟨Nat.le_of_ble_eq_true rfl, Nat.le_of_ble_eq_true rfl⟩) (ft_preM hEL hz hS hP) rfl rfl hl.1 rfl (lv_room (Nat.le_of_ble_eq_true rfl)) dL_law_259 ⟨(show 55211 + 1667 * i_199 + 431 ≤ room_1.cells from ft_rc (by omega)), (show 681644 + 34338 * i_199 + 2586 ≤ room_1.slots from ft_rs (by omega))⟩) hS (fun _ _ h => h) (fun _ h => h) (fun z u t H1 locs1 ht hvm hw hB hz1 hk1 hS1 => ?_)
              obtain rfl : z = (s_L_digest r0) := hw
              rw [ht] at hB
              have hP := hB
              have hS := hS1
              clear hS1
              generalize H1 = H at hP hS ⊢
              refine W.widen (k := 55642 + 1667 * i_199) (n := 684230 + 34338 * i_199) (by omega) (by omega) ?_
              refine lv_lload hx hb dL_law_262 (lv_at hl 4 rfl) ?_
              refine W.lcmp hx hb dL_law_264 ?_
              rw [ft_cmp0]
              refine lv_if_ne (tgt := 272) hx hb dL_law_265 (by decide) (fun c_265 => ?_) (fun c_265 => ?_)
              · skip
                first | exact absurd c_265 (by decide) | exact absurd (by decide) c_265
              · skip
                refine lv_iconst (v := 1) hx hb dL_law_268 (by decide) ?_
                refine lv_goto (tgt := 273) hx hb dL_law_269 (by decide) ?_
                refine lv_istore_n (lv' := [(3, .int (1)), (8, .int (((w_runScript u_219_4).1))), (0, .ref (b)), (1, .ref (a)), (4, .long (s_L_digest r0)), (6, .int ((l_truckCount (ft_nr r0)))), (7, .int (y7_199))]) hx hb dL_law_273 rfl hl (by decide) rfl (fun ls hl => ?_)
                refine lv_iinc (v := y7_199 + 1) (lv' := [(7, .int (y7_199 + 1)), (3, .int (1)), (8, .int (((w_runScript u_219_4).1))), (0, .ref (b)), (1, .ref (a)), (4, .long (s_L_digest r0)), (6, .int ((l_truckCount (ft_nr r0))))]) hx hb dL_law_274 hl (k := 6) rfl rfl (by decide) rfl (fun ls hl => ?_)
                refine lv_goto (tgt := 199) hx hb dL_law_277 (by decide) ?_
                refine W.widen (k := 55184 + 1667 * (i_199 + 1)) (n := 677882 + 34338 * (i_199 + 1)) (by omega) (by omega) ?_
                exact ih_199 (y7_199 + 1) ((w_runScript u_219_4).2) (i_199 + 1) (by rw [hi_199, nI_1]) hlt_199 (by omega) (show J (jc0 + 43 + 1 * (i_199 + 1)) ((w_runScript u_219_4).2) from hJ.mono hJ_222_5 (by omega)) hq_r241 (by first | exact hv_252 | exact hv_222) _ _ hP hS ls (lv_sub hl [3, 4, 1, 5, 6, 0] rfl)
  refine W.widen (k := 55184 + 1667 * 0) (n := 677882 + 34338 * 0) (by omega) (by omega) ?_
  refine loop_199 (fun y7_199 σ199 i_199 hi_199 hm_199 hx_199 hj_199 hq_199 hv_199 H locs hP hS ls hl => ?_) (tn 28 + 1) 0 ((l_save ((w_runScript u_175_1).2)).2) 0 rfl (Nat.zero_le _) (by omega) (show J (jc0 + 43 + 1 * 0) ((l_save ((w_runScript u_175_1).2)).2) from hJ.mono hJ_191_3 (by omega)) hq_191_4 (hn_191) _ _ hP hS ls (lv_sub hl [4, 5, 3, 2, 1, 0] rfl)
  have hm5_199 : i_199 ≤ 28 := hm_199
  replace hj_199 : J (jc0 + 71) σ199 := hJ.mono hj_199 (by omega)
  refine W.widen (k := 101860) (n := 1639346) (by omega) (by omega) ?_
  refine lv_iconst (v := 0) hx hb dL_law_280 (by decide) ?_
  refine lv_istore (lv' := [(7, .int (0)), (0, .ref (b)), (1, .ref (a)), (3, .int (1)), (4, .long (s_L_digest r0)), (6, .int ((l_truckCount (ft_nr r0))))]) hx hb dL_law_281 hl (by decide) rfl (fun ls hl => ?_)
  have loop_283 : ∀ (hKx : ∀ (y7_283 : Int32) (σ283 : ft_Sg) (i_283 : Nat) (hi_283 : y7_283 = nI i_283) (hm_283 : i_283 ≤ tn 2) (hx_283 : i_283 = tn 2) (hj_283 : J (jc0 + 71 + 7 * i_283) σ283) (hv_283 : σ283.1 2 = r0 ∧ σ283.2.2.1 0 = 1) (H : Heap) (locs : List Loc) (hP : ft_LW D k Z sz a σ283 H) (hS : va_S (ft_AL sz) s.heap H locs) (ls : Array Slot) (hl : lv_has ls 9 [(0, .ref (b)), (1, .ref (a)), (3, .int (1)), (4, .long (s_L_digest r0)), (6, .int ((l_truckCount (ft_nr r0)))), (7, .int (y7_283))]), W p l e room_1 s m #[Value.ref b] below meth c H locs (101860 + 44914) (1639346 + 703188) (lw_Z below #[Value.ref b] s) (F0 m 362 ls [])) (n_283 : Nat), ∀ (y7_283 : Int32) (σ283 : ft_Sg) (i_283 : Nat) (hi_283 : y7_283 = nI i_283) (hm_283 : i_283 ≤ tn 2) (hn_283 : tn 2 < n_283 + i_283) (hj_283 : J (jc0 + 71 + 7 * i_283) σ283) (hv_283 : σ283.1 2 = r0 ∧ σ283.2.2.1 0 = 1) (H : Heap) (locs : List Loc) (hP : ft_LW D k Z sz a σ283 H) (hS : va_S (ft_AL sz) s.heap H locs) (ls : Array Slot) (hl : lv_has ls 9 [(0, .ref (b)), (1, .ref (a)), (3, .int (1)), (4, .long (s_L_digest r0)), (6, .int ((l_truckCount (ft_nr r0)))), (7, .int (y7_283))]), W p l e room_1 s m #[Value.ref b] below meth c H locs (101860 + 22457 * i_283) (1639346 + 351594 * i_283) (lw_Z below #[Value.ref b] s) (F0 m 283 ls []) := by
    intro hKx n_283
    induction n_283 with
    | zero => intro y7_283 σ283 i_283 hi_283 hm_283 hn_283; exact absurd hn_283 (by omega)
    | succ n ih_283 =>
      intro y7_283 σ283 i_283 hi_283 hm_283 hn_283 hj_283 hv_283 H locs hP hS ls hl
      have hm5_283 : i_283 ≤ 2 := hm_283
      refine lv_iload_n hx hb dL_law_283 rfl (lv_at hl 2 rfl) ?_
      refine lv_if_eq (tgt := 362) hx hb dL_law_284 (by decide) (fun c_284 => ?_) (fun c_284 => ?_)
      · skip
        first | exact absurd c_284 (by decide) | exact absurd (by decide) c_284
      · skip
        refine lv_iload hx hb dL_law_287 (lv_at hl 5 rfl) ?_
        refine lv_iconst (v := 2) hx hb dL_law_289 (by decide) ?_
        refine lv_icmp_ge (tgt := 362) hx hb dL_law_290 (by decide) (fun c_290 => ?_) (fun c_290 => ?_)
        · skip
          refine W.widen (k := 101860 + 44914) (n := 1639346 + 703188) (by omega) (by omega) ?_
          exact hKx y7_283 σ283 i_283 hi_283 hm_283 (ft_exi hi_283 hm_283 c_290) hj_283 hv_283 _ _ hP hS ls (lv_sub hl [0, 1, 2, 3, 4, 5] rfl)
        · skip
          have hlt_283 := ft_step hi_283 hm_283 c_290
          have hl5_283 : i_283 + 1 ≤ 2 := hlt_283
          refine lv_aload_n hx hb dL_law_293 rfl (lv_at hl 1 rfl) ?_
          refine lv_iload hx hb dL_law_294 (lv_at hl 5 rfl) ?_
          refine lv_iconst (v := 3) hx hb dL_law_296 (by decide) ?_
          refine lv_bipush (v := 7) hx hb dL_law_297 (by decide) ?_
          refine va_calli (vx_runSW (As := [.ref (a), .int (y7_283), .int (3), .int (7)]) (rest := []) ⟨hx, hb, hml, hown, hts⟩ (d_L_addStock l hl0 D Z k sz a σ283 y7_283 3 7 (hJ.pm hj_283) (hJ.ex_addStock _ _ _ hj_283 (by omega))) (vx_cwSW 4 hts gL_law_L_addStock rfl rfl rfl (by decide +kernel) ⟨Nat.le_of_ble_eq_true rfl, Nat.le_of_ble_eq_true rfl⟩) (ft_preM hEL hz hS hP) rfl rfl hl.1 rfl (lv_room (Nat.le_of_ble_eq_true rfl)) dL_law_299 ⟨(show 101860 + 22457 * i_283 + 1 ≤ room_1.cells from ft_rc (by omega)), (show 1639346 + 351594 * i_283 + 6 ≤ room_1.slots from ft_rs (by omega))⟩) hS (fun _ _ h => h) (fun _ h => h) (fun z_u_299_8 u_299_8 t H1 locs1 ht hvm hw hB hz1 hk1 hS1 => ?_)
          replace hw : u_299_8 = (w_addStock σ283 y7_283 3 7).2 := congrArg Prod.snd hw
          rw [ht] at hB
          have hP := hB
          have hS := hS1
          clear hS1
          generalize H1 = H at hP hS ⊢
          refine W.widen (k := 101861 + 22457 * i_283) (n := 1639352 + 351594 * i_283) (by omega) (by omega) ?_
          have hJ_u_299_8 : J (jc0 + 71 + 7 * i_283) u_299_8 := by rw [hw]; exact hJ.mono (hJ.k_addStock _ _ _ hj_283 (by omega)) (by omega)
          have hg_u_299_8 : G (u_299_8.1 0) := hJ.gr hJ_u_299_8 (by omega) rfl
          have hw_299 : ft_zv σ283 u_299_8 := by rw [hw]; exact hJ.sv_addStock _ _ _ hj_283
          clear hw
          refine lv_pop hx hb dL_law_302 rfl ?_
          refine lv_aload_n hx hb dL_law_303 rfl (lv_at hl 1 rfl) ?_
          refine lv_iload hx hb dL_law_304 (lv_at hl 5 rfl) ?_
          refine lv_aload_n hx hb dL_law_306 rfl (lv_at hl 1 rfl) ?_
          refine vp_callSi (va_Run.run (va_runV (As := []) (rest := [.int (y7_283), .ref (a)]) ⟨hx, hb, hml, hown, hts⟩ (cl_day l D Z k sz a u_299_8) (cwV 0 hts gL_law_X7_day rfl rfl rfl (by decide +kernel) ⟨Nat.le_of_ble_eq_true rfl, Nat.le_of_ble_eq_true rfl⟩) (ft_preL hE hz hS hP) rfl rfl hl.1 rfl (lv_room (Nat.le_of_ble_eq_true rfl)) dL_law_307 ⟨(show 101861 + 22457 * i_283 + 0 ≤ room_1.cells from ft_rc (by omega)), (show 1639352 + 351594 * i_283 + 0 ≤ room_1.slots from ft_rs (by omega))⟩)) (fun z hz9 => ?_)
          replace hz9 : z = l_day (ft_nr (u_299_8.1 0)) := hz9.trans (ft_ev (f := fun q9 => l_day (ft_nr q9)) (rfl : u_299_8.1 0 = u_299_8.1 0) rfl)
          subst hz9
          refine lv_bipush (v := 7) hx hb dL_law_310 (by decide) ?_
          refine lv_irem hx hb dL_law_312 (by decide) ?_
          refine va_calli (vx_runSW (As := [.ref (a), .int (y7_283), .int ((l_day (ft_nr (u_299_8.1 0))) - (l_day (ft_nr (u_299_8.1 0))) / 7 * 7)]) (rest := []) ⟨hx, hb, hml, hown, hts⟩ (d_L_grantPermit l hl0 D Z k sz a u_299_8 y7_283 ((l_day (ft_nr (u_299_8.1 0))) - (l_day (ft_nr (u_299_8.1 0))) / 7 * 7) (hJ.pm hJ_u_299_8) (hJ.ex_grantPermit _ _ hJ_u_299_8 (by omega))) (vx_cwSW 3 hts gL_law_L_grantPermit rfl rfl rfl (by decide +kernel) ⟨Nat.le_of_ble_eq_true rfl, Nat.le_of_ble_eq_true rfl⟩) (ft_preM hEL hz hS hP) rfl rfl hl.1 rfl (lv_room (Nat.le_of_ble_eq_true rfl)) dL_law_313 ⟨(show 101861 + 22457 * i_283 + 1 ≤ room_1.cells from ft_rc (by omega)), (show 1639352 + 351594 * i_283 + 6 ≤ room_1.slots from ft_rs (by omega))⟩) hS (fun _ _ h => h) (fun _ h => h) (fun z_u_313_9 u_313_9 t H1 locs1 ht hvm hw hB hz1 hk1 hS1 => ?_)
          replace hw : u_313_9 = (w_grantPermit u_299_8 y7_283 ((l_day (ft_nr (u_299_8.1 0))) - (l_day (ft_nr (u_299_8.1 0))) / 7 * 7)).2 := congrArg Prod.snd hw
          rw [ht] at hB
          have hP := hB
          have hS := hS1
          clear hS1
          generalize H1 = H at hP hS ⊢
          refine W.widen (k := 101862 + 22457 * i_283) (n := 1639358 + 351594 * i_283) (by omega) (by omega) ?_
          have hJ_u_313_9 : J (jc0 + 71 + 7 * i_283) u_313_9 := by rw [hw]; exact hJ.mono (hJ.k_grantPermit _ _ hJ_u_299_8 (by omega)) (by omega)
          have hg_u_313_9 : G (u_313_9.1 0) := hJ.gr hJ_u_313_9 (by omega) rfl
          have hw_313 : ft_zv σ283 u_313_9 := by rw [hw]; exact hw_299.tr (hJ.sv_grantPermit _ _ hJ_u_299_8)
          clear hw
          refine lv_pop hx hb dL_law_316 rfl ?_
          refine lv_aload_n hx hb dL_law_317 rfl (lv_at hl 1 rfl) ?_
          refine lv_iload hx hb dL_law_318 (lv_at hl 5 rfl) ?_
          refine lv_iconst (v := 4) hx hb dL_law_320 (by decide) ?_
          refine lv_iload hx hb dL_law_321 (lv_at hl 5 rfl) ?_
          refine lv_isub hx hb dL_law_323 ?_
          refine lv_aload_n hx hb dL_law_324 rfl (lv_at hl 1 rfl) ?_
          refine vp_callSi (va_Run.run (va_runV (As := []) (rest := [.int (4 - y7_283), .int (y7_283), .ref (a)]) ⟨hx, hb, hml, hown, hts⟩ (cl_day l D Z k sz a u_313_9) (cwV 0 hts gL_law_X7_day rfl rfl rfl (by decide +kernel) ⟨Nat.le_of_ble_eq_true rfl, Nat.le_of_ble_eq_true rfl⟩) (ft_preL hE hz hS hP) rfl rfl hl.1 rfl (lv_room (Nat.le_of_ble_eq_true rfl)) dL_law_325 ⟨(show 101862 + 22457 * i_283 + 0 ≤ room_1.cells from ft_rc (by omega)), (show 1639358 + 351594 * i_283 + 0 ≤ room_1.slots from ft_rs (by omega))⟩)) (fun z hz9 => ?_)
          replace hz9 : z = l_day (ft_nr (u_313_9.1 0)) := hz9.trans (ft_ev (f := fun q9 => l_day (ft_nr q9)) (rfl : u_313_9.1 0 = u_313_9.1 0) rfl)
          subst hz9
          refine lv_bipush (v := 7) hx hb dL_law_328 (by decide) ?_
          refine lv_irem hx hb dL_law_330 (by decide) ?_
          refine va_calli (vx_runSW (As := [.ref (a), .int (y7_283), .int (4 - y7_283), .int ((l_day (ft_nr (u_313_9.1 0))) - (l_day (ft_nr (u_313_9.1 0))) / 7 * 7)]) (rest := []) ⟨hx, hb, hml, hown, hts⟩ (d_L_assign l hl0 D Z k sz a u_313_9 y7_283 (4 - y7_283) ((l_day (ft_nr (u_313_9.1 0))) - (l_day (ft_nr (u_313_9.1 0))) / 7 * 7) (hJ.pm hJ_u_313_9) (hJ.ex_assign _ _ _ hJ_u_313_9 (by omega))) (vx_cwSW 4 hts gL_law_L_assign rfl rfl rfl (by decide +kernel) ⟨Nat.le_of_ble_eq_true rfl, Nat.le_of_ble_eq_true rfl⟩) (ft_preM hEL hz hS hP) rfl rfl hl.1 rfl (lv_room (Nat.le_of_ble_eq_true rfl)) dL_law_331 ⟨(show 101862 + 22457 * i_283 + 1 ≤ room_1.cells from ft_rc (by omega)), (show 1639358 + 351594 * i_283 + 6 ≤ room_1.slots from ft_rs (by omega))⟩) hS (fun _ _ h => h) (fun _ h => h) (fun z_u_331_10 u_331_10 t H1 locs1 ht hvm hw hB hz1 hk1 hS1 => ?_)
          replace hw : u_331_10 = (w_assign u_313_9 y7_283 (4 - y7_283) ((l_day (ft_nr (u_313_9.1 0))) - (l_day (ft_nr (u_313_9.1 0))) / 7 * 7)).2 := congrArg Prod.snd hw
          rw [ht] at hB
          have hP := hB
          have hS := hS1
          clear hS1
          generalize H1 = H at hP hS ⊢
          refine W.widen (k := 101863 + 22457 * i_283) (n := 1639364 + 351594 * i_283) (by omega) (by omega) ?_
          have hJ_u_331_10 : J (jc0 + 71 + 7 * i_283) u_331_10 := by rw [hw]; exact hJ.mono (hJ.k_assign _ _ _ hJ_u_313_9 (by omega)) (by omega)
          have hg_u_331_10 : G (u_331_10.1 0) := hJ.gr hJ_u_331_10 (by omega) rfl
          have hw_331 : ft_zv σ283 u_331_10 := by rw [hw]; exact hw_313.tr (hJ.sv_assign _ _ _ hJ_u_313_9)
          clear hw
          refine lv_pop hx hb dL_law_334 rfl ?_
          refine lv_aload_n hx hb dL_law_335 rfl (lv_at hl 1 rfl) ?_
          refine lv_iconst (v := 3) hx hb dL_law_336 (by decide) ?_
          refine lv_iload hx hb dL_law_337 (lv_at hl 5 rfl) ?_
          refine lv_isub hx hb dL_law_339 ?_
          refine va_calli (vx_runSW (As := [.ref (a), .int (3 - y7_283)]) (rest := []) ⟨hx, hb, hml, hown, hts⟩ (d_L_setWeather l hl0 D Z k sz a u_331_10 (3 - y7_283) (hJ.pm hJ_u_331_10) (hJ.ex_setWeather _ hJ_u_331_10 (by omega))) (vx_cwSW 2 hts gL_law_L_setWeather rfl rfl rfl (by decide +kernel) ⟨Nat.le_of_ble_eq_true rfl, Nat.le_of_ble_eq_true rfl⟩) (ft_preM hEL hz hS hP) rfl rfl hl.1 rfl (lv_room (Nat.le_of_ble_eq_true rfl)) dL_law_340 ⟨(show 101863 + 22457 * i_283 + 1 ≤ room_1.cells from ft_rc (by omega)), (show 1639364 + 351594 * i_283 + 6 ≤ room_1.slots from ft_rs (by omega))⟩) hS (fun _ _ h => h) (fun _ h => h) (fun z_u_340_11 u_340_11 t H1 locs1 ht hvm hw hB hz1 hk1 hS1 => ?_)
          replace hw : u_340_11 = (w_setWeather u_331_10 (3 - y7_283)).2 := congrArg Prod.snd hw
          rw [ht] at hB
          have hP := hB
          have hS := hS1
          clear hS1
          generalize H1 = H at hP hS ⊢
          refine W.widen (k := 101864 + 22457 * i_283) (n := 1639370 + 351594 * i_283) (by omega) (by omega) ?_
          have hJ_u_340_11 : J (jc0 + 71 + 7 * i_283) u_340_11 := by rw [hw]; exact hJ.mono (hJ.k_setWeather _ hJ_u_331_10 (by omega)) (by omega)
          have hg_u_340_11 : G (u_340_11.1 0) := hJ.gr hJ_u_340_11 (by omega) rfl
          have hw_340 : ft_zv σ283 u_340_11 := by rw [hw]; exact hw_331.tr (hJ.sv_setWeather _ hJ_u_331_10)
          clear hw
          refine lv_pop hx hb dL_law_343 rfl ?_
          refine lv_aload_n hx hb dL_law_344 rfl (lv_at hl 1 rfl) ?_
          refine lv_bipush (v := 23) hx hb dL_law_345 (by decide) ?_
          refine va_calli (vx_runSW (As := [.ref (a), .int (23)]) (rest := []) ⟨hx, hb, hml, hown, hts⟩ (d_L_advance l hl0 D Z k sz a u_340_11 23 (hJ.pm hJ_u_340_11) (hJ.ex_advance _ hJ_u_340_11 (by omega))) (vx_cwSW 2 hts gL_law_L_advance rfl rfl rfl (by decide +kernel) ⟨Nat.le_of_ble_eq_true rfl, Nat.le_of_ble_eq_true rfl⟩) (ft_preM hEL hz hS hP) rfl rfl hl.1 rfl (lv_room (Nat.le_of_ble_eq_true rfl)) dL_law_347 ⟨(show 101864 + 22457 * i_283 + 1 ≤ room_1.cells from ft_rc (by omega)), (show 1639370 + 351594 * i_283 + 6 ≤ room_1.slots from ft_rs (by omega))⟩) hS (fun _ _ h => h) (fun _ h => h) (fun z_u_347_12 u_347_12 t H1 locs1 ht hvm hw hB hz1 hk1 hS1 => ?_)
          replace hw : u_347_12 = (w_advance u_340_11 23).2 := congrArg Prod.snd hw
          rw [ht] at hB
          have hP := hB
          have hS := hS1
          clear hS1
          generalize H1 = H at hP hS ⊢
          refine W.widen (k := 101865 + 22457 * i_283) (n := 1639376 + 351594 * i_283) (by omega) (by omega) ?_
          have hJ_u_347_12 : J (jc0 + 72 + 7 * i_283) u_347_12 := by rw [hw]; exact hJ.mono (hJ.k_advance _ hJ_u_340_11 (by omega)) (by omega)
          have hg_u_347_12 : G (u_347_12.1 0) := hJ.gr hJ_u_347_12 (by omega) rfl
          have hw_347 : ft_zv σ283 u_347_12 := by rw [hw]; exact hw_340.tr (hJ.sv_advance _ hJ_u_340_11)
          clear hw
          refine lv_pop hx hb dL_law_350 rfl ?_
          refine lv_aload_n hx hb dL_law_351 rfl (lv_at hl 1 rfl) ?_
          refine va_calli (va_runS (As := [.ref (a)]) (rest := []) ⟨hx, hb, hml, hown, hts⟩ (c_L_isFit l hl0 D Z k sz a u_347_12 J G T hJ (jc0 + 72 + 7 * i_283) hJ_u_347_12 (by omega) (u_347_12.1 0) (rfl : u_347_12.1 0 = u_347_12.1 0) ) (va_cwS 1 hts gL_law_L_isFit rfl rfl rfl (by decide +kernel) ⟨Nat.le_of_ble_eq_true rfl, Nat.le_of_ble_eq_true rfl⟩) (ft_preM hEL hz hS hP) rfl rfl hl.1 rfl (lv_room (Nat.le_of_ble_eq_true rfl)) dL_law_352 ⟨(show 101865 + 22457 * i_283 + 22452 ≤ room_1.cells from ft_rc (by omega)), (show 1639376 + 351594 * i_283 + 351564 ≤ room_1.slots from ft_rs (by omega))⟩) hS (fun _ _ h => h) (fun _ h => h) (fun z u_352_13 t H1 locs1 ht hvm hw hB hz1 hk1 hS1 => ?_)
          obtain ⟨hp_u_352_13, hj_u_352_13⟩ := hw
          obtain ⟨hz_u_352_13, hp_u_352_13⟩ := hp_u_352_13
          subst hz_u_352_13
          replace hj_u_352_13 : J (jc0 + 78 + 7 * i_283) u_352_13 := hJ.mono hj_u_352_13 (by omega)
          rw [ht] at hB
          have hP := hB
          have hS := hS1
          clear hS1
          generalize H1 = H at hP hS ⊢
          refine W.widen (k := 124317 + 22457 * i_283) (n := 1990940 + 351594 * i_283) (by omega) (by omega) ?_
          have hg_u_352_13 : G (u_352_13.1 0) := hJ.gr hj_u_352_13 (by omega) rfl
          have hw_352 : ft_zv σ283 u_352_13 := hw_347.tr (hp_u_352_13)
          refine lv_istore_n (lv' := [(3, .int (1)), (0, .ref (b)), (1, .ref (a)), (4, .long (s_L_digest r0)), (6, .int ((l_truckCount (ft_nr r0)))), (7, .int (y7_283))]) hx hb dL_law_355 rfl hl (by decide) rfl (fun ls hl => ?_)
          refine lv_iinc (v := y7_283 + 1) (lv' := [(7, .int (y7_283 + 1)), (3, .int (1)), (0, .ref (b)), (1, .ref (a)), (4, .long (s_L_digest r0)), (6, .int ((l_truckCount (ft_nr r0))))]) hx hb dL_law_356 hl (k := 5) rfl rfl (by decide) rfl (fun ls hl => ?_)
          refine lv_goto (tgt := 283) hx hb dL_law_359 (by decide) ?_
          refine W.widen (k := 101860 + 22457 * (i_283 + 1)) (n := 1639346 + 351594 * (i_283 + 1)) (by omega) (by omega) ?_
          exact ih_283 (y7_283 + 1) u_352_13 (i_283 + 1) (by rw [hi_283, nI_1]) hlt_283 (by omega) (show J (jc0 + 71 + 7 * (i_283 + 1)) u_352_13 from hJ.mono hj_u_352_13 (by omega)) (⟨hw_352.1.trans hv_283.1, hw_352.2.trans hv_283.2⟩) _ _ hP hS ls (lv_sub hl [2, 3, 1, 4, 5, 0] rfl)
  refine W.widen (k := 101860 + 22457 * 0) (n := 1639346 + 351594 * 0) (by omega) (by omega) ?_
  refine loop_283 (fun y7_283 σ283 i_283 hi_283 hm_283 hx_283 hj_283 hv_283 H locs hP hS ls hl => ?_) (tn 2 + 1) 0 σ199 0 rfl (Nat.zero_le _) (by omega) (show J (jc0 + 71 + 7 * 0) σ199 from hJ.mono hj_199 (by omega)) (⟨hv_199.1, hv_199.2.1⟩) _ _ hP hS ls (lv_sub hl [1, 2, 3, 4, 5, 0] rfl)
  have hm5_283 : i_283 ≤ 2 := hm_283
  replace hj_283 : J (jc0 + 85) σ283 := hJ.mono hj_283 (by omega)
  refine W.widen (k := 146774) (n := 2342534) (by omega) (by omega) ?_
  refine lv_iload_n hx hb dL_law_362 rfl (lv_at hl 2 rfl) ?_
  refine lv_if_eq (tgt := 398) hx hb dL_law_363 (by decide) (fun c_363 => ?_) (fun c_363 => ?_)
  · skip
    first | exact absurd c_363 (by decide) | exact absurd (by decide) c_363
  · skip
    refine lv_aload_n hx hb dL_law_366 rfl (lv_at hl 1 rfl) ?_
    refine va_calli (vx_runSW (As := [.ref (a)]) (rest := []) ⟨hx, hb, hml, hown, hts⟩ (d_L_restore l hl0 D Z k sz a σ283  (hJ.ex_restore hj_283 (by omega))) (vx_cwSW 1 hts gL_law_L_restore rfl rfl rfl (by decide +kernel) ⟨Nat.le_of_ble_eq_true rfl, Nat.le_of_ble_eq_true rfl⟩) (ft_preM hEL hz hS hP) rfl rfl hl.1 rfl (lv_room (Nat.le_of_ble_eq_true rfl)) dL_law_367 ⟨Nat.le_of_ble_eq_true rfl, Nat.le_of_ble_eq_true rfl⟩) hS (fun _ _ h => h) (fun _ h => h) (fun z u t H1 locs1 ht hvm hw hB hz1 hk1 hS1 => ?_)
    obtain ⟨rfl, rfl⟩ : z = (l_truckCount (ft_nr r0)) ∧ u = (w_restore σ283).2 := ⟨(congrArg Prod.fst hw).trans ((hJ.rs hj_283 hv_283.1 hv_283.2).1), congrArg Prod.snd hw⟩
    rw [ht] at hB
    have hP := hB
    have hS := hS1
    clear hS1
    generalize H1 = H at hP hS ⊢
    refine W.widen (k := 146775) (n := 2342540) (by omega) (by omega) ?_
    have hJ_367_14 : J (jc0 + 85) (w_restore σ283).2 := hJ.mono (hJ.k_restore hj_283 (by omega)) (by omega)
    have hq_367_15 : (w_restore σ283).2.1 0 = r0 := (hJ.rs hj_283 hv_283.1 hv_283.2).2.1
    have hg_367_15 : G r0 := hJ.gr hJ_367_14 (by omega) hq_367_15
    have hD_367 : (w_undo ((w_restore σ283).2)).1 = -100000000 := (hJ.rs hj_283 hv_283.1 hv_283.2).2.2
    refine lv_iload hx hb dL_law_370 (lv_at hl 4 rfl) ?_
    refine lv_icmp_ne (tgt := 398) hx hb dL_law_372 (by decide) (fun c_372 => ?_) (fun c_372 => ?_)
    · skip
      exact absurd (rfl) c_372
    · skip
      refine lv_aload_n hx hb dL_law_375 rfl (lv_at hl 1 rfl) ?_
      refine va_calll (va_runS (As := [.ref (a)]) (rest := []) ⟨hx, hb, hml, hown, hts⟩ (c_L_digest l hl0 D Z k sz a ((w_restore σ283).2) r0 hq_367_15 (hJ.dN hg_367_15) (hJ.dT hg_367_15) (hJ.dQ hg_367_15) (hJ.dW hg_367_15)) (va_cwS 1 hts gL_law_L_digest rfl rfl rfl (by decide +kernel) ⟨Nat.le_of_ble_eq_true rfl, Nat.le_of_ble_eq_true rfl⟩) (ft_preM hEL hz hS hP) rfl rfl hl.1 rfl (lv_room (Nat.le_of_ble_eq_true rfl)) dL_law_376 ⟨Nat.le_of_ble_eq_true rfl, Nat.le_of_ble_eq_true rfl⟩) hS (fun _ _ h => h) (fun _ h => h) (fun z u t H1 locs1 ht hvm hw hB hz1 hk1 hS1 => ?_)
      obtain rfl : z = (s_L_digest r0) := hw
      rw [ht] at hB
      have hP := hB
      have hS := hS1
      clear hS1
      generalize H1 = H at hP hS ⊢
      refine W.widen (k := 147206) (n := 2345126) (by omega) (by omega) ?_
      refine lv_lload hx hb dL_law_379 (lv_at hl 3 rfl) ?_
      refine W.lcmp hx hb dL_law_381 ?_
      rw [ft_cmp0]
      refine lv_if_ne (tgt := 398) hx hb dL_law_382 (by decide) (fun c_382 => ?_) (fun c_382 => ?_)
      · skip
        first | exact absurd c_382 (by decide) | exact absurd (by decide) c_382
      · skip
        refine lv_aload_n hx hb dL_law_385 rfl (lv_at hl 1 rfl) ?_
        refine va_calli (vx_runSW (As := [.ref (a)]) (rest := []) ⟨hx, hb, hml, hown, hts⟩ (d_L_undo l hl0 D Z k sz a ((w_restore σ283).2) (hJ.pm hJ_367_14) (hJ.ex_undo hJ_367_14 (by omega))) (vx_cwSW 1 hts gL_law_L_undo rfl rfl rfl (by decide +kernel) ⟨Nat.le_of_ble_eq_true rfl, Nat.le_of_ble_eq_true rfl⟩) (ft_preM hEL hz hS hP) rfl rfl hl.1 rfl (lv_room (Nat.le_of_ble_eq_true rfl)) dL_law_386 ⟨Nat.le_of_ble_eq_true rfl, Nat.le_of_ble_eq_true rfl⟩) hS (fun _ _ h => h) (fun _ h => h) (fun z u t H1 locs1 ht hvm hw hB hz1 hk1 hS1 => ?_)
        obtain ⟨rfl, rfl⟩ : z = (-100000000) ∧ u = (w_undo ((w_restore σ283).2)).2 := ⟨(congrArg Prod.fst hw).trans (hD_367), congrArg Prod.snd hw⟩
        rw [ht] at hB
        have hP := hB
        have hS := hS1
        clear hS1
        generalize H1 = H at hP hS ⊢
        refine W.widen (k := 147207) (n := 2345132) (by omega) (by omega) ?_
        have hJ_386_15 : J (jc0 + 85) (w_undo ((w_restore σ283).2)).2 := hJ.mono (hJ.k_undo hJ_367_14 (by omega)) (by omega)
        have hq_386_16 : (w_undo ((w_restore σ283).2)).2.1 0 = ((w_undo ((w_restore σ283).2)).2.1 0) := rfl
        have hg_386_16 : G ((w_undo ((w_restore σ283).2)).2.1 0) := hJ.gr hJ_386_15 (by omega) hq_386_16
        refine lv_ldc hx hb hown (hts (.constant RL 10 (-100000000)) (by decide +kernel)) dL_law_389 ?_
        refine lv_icmp_ne (tgt := 398) hx hb dL_law_391 (by decide) (fun c_391 => ?_) (fun c_391 => ?_)
        · skip
          first | exact absurd c_391 (by decide) | exact absurd (by decide) c_391
        · skip
          refine lv_iconst (v := 1) hx hb dL_law_394 (by decide) ?_
          refine lv_goto (tgt := 399) hx hb dL_law_395 (by decide) ?_
          refine W.widen (k := room_1.cells) (n := room_1.slots) (ft_rc (by omega)) (ft_rs (by omega)) ?_
          refine va_forget (fun q9 hq9 => Nat.le_trans hzs (hS.2.2 q9 hq9).1) ?_
          refine W.base ?_
          exact lw_ret (Drawn.sameBut.refl s.drawn lw_cs) hx hb hr hlocks dL_law_399
set_option maxHeartbeats 8000000 in
set_option maxRecDepth 100000 in
theorem law_A {p : Program} {e : Env} {s : State} {m : MethodId} {below : List Frame} {meth : Method} {c : Code} (l : Launch) (hl0 : l.stackTraces = false) (b L : Nat) (xs : Nat → Int32) (hL : L ≤ 260) (hx : p.tables.exec = Jvm.exec) (hb : c.code = code) (hr : meth.sig.returnType = ret) (hml : c.maxLocals = 9) (hown : s.vm.findClass RL = some m.cls) (hts : ∀ w ∈ wsL_law, w.before #[Value.ref b] s = true) (hX : va_X b L xs s s.heap) (hbl : b < s.heap.size) (hlocks : meth.locks = false) (D : va_G) (Z : Nat → Nat → Nat) (k : Nat → ClassId) (sz : ft_SZ) (a : Nat) (hEL : ft_EL D k Z (ft_AL sz) s) (hz : ft_sl sz s.heap.size) (hzs : s.heap.size ≤ sz.1) (J : Nat → ft_Sg → Prop) (G : (Nat → Int32) → Prop) (T : Nat → Nat → ft_Sg → Prop) (hJ : ft_JJ J G T) (σ : ft_Sg) (jc0 : Nat) (h0 : J jc0 σ) (hc : jc0 + 200 ≤ 1000) (H : Heap) (locs : List Loc) (hP : ft_LW D k Z sz a σ H) (hS : va_S (ft_AL sz) s.heap H locs) (ls : Array Slot) (hl : lv_has ls 9 [(0, .ref (b))]) : W p l e room_1 s m #[Value.ref b] below meth c H locs 292 2078 (lw_Z below #[Value.ref b] s) (F0 m 7 ls [.ref (a)]) := by
  have hE := hEL.1
  have hbA : ¬ ft_AL sz b := fun h => absurd h.1 (by omega)
  refine lv_astore_n (lv' := [(1, .ref (a)), (0, .ref (b))]) hx hb dL_law_7 rfl hl (by decide) rfl (fun ls hl => ?_)
  refine lv_iconst (v := 0) hx hb dL_law_8 (by decide) ?_
  refine lv_istore_n (lv' := [(2, .int (0)), (1, .ref (a)), (0, .ref (b))]) hx hb dL_law_9 rfl hl (by decide) rfl (fun ls hl => ?_)
  have loop_10 : ∀ (hKx : ∀ (y2_10 : Int32) (σ10 : ft_Sg) (i_10 : Nat) (hi_10 : y2_10 = nI i_10) (hm_10 : i_10 ≤ tn 3) (hx_10 : i_10 = tn 3) (hj_10 : J (jc0 + 0) σ10) (H : Heap) (locs : List Loc) (hP : ft_LW D k Z sz a σ10 H) (hS : va_S (ft_AL sz) s.heap H locs) (ls : Array Slot) (hl : lv_has ls 9 [(0, .ref (b)), (1, .ref (a)), (2, .int (y2_10))]), W p l e room_1 s m #[Value.ref b] below meth c H locs (292 + 39) (2078 + 234) (lw_Z below #[Value.ref b] s) (F0 m 98 ls [])) (n_10 : Nat), ∀ (y2_10 : Int32) (σ10 : ft_Sg) (i_10 : Nat) (hi_10 : y2_10 = nI i_10) (hm_10 : i_10 ≤ tn 3) (hn_10 : tn 3 < n_10 + i_10) (hj_10 : J (jc0 + 0) σ10) (H : Heap) (locs : List Loc) (hP : ft_LW D k Z sz a σ10 H) (hS : va_S (ft_AL sz) s.heap H locs) (ls : Array Slot) (hl : lv_has ls 9 [(0, .ref (b)), (1, .ref (a)), (2, .int (y2_10))]), W p l e room_1 s m #[Value.ref b] below meth c H locs (292 + 13 * i_10) (2078 + 78 * i_10) (lw_Z below #[Value.ref b] s) (F0 m 10 ls []) := by
    intro hKx n_10
    induction n_10 with
    | zero => intro y2_10 σ10 i_10 hi_10 hm_10 hn_10; exact absurd hn_10 (by omega)
    | succ n ih_10 =>
      intro y2_10 σ10 i_10 hi_10 hm_10 hn_10 hj_10 H locs hP hS ls hl
      have hm5_10 : i_10 ≤ 3 := hm_10
      refine lv_iload_n hx hb dL_law_10 rfl (lv_at hl 2 rfl) ?_
      refine lv_iconst (v := 3) hx hb dL_law_11 (by decide) ?_
      refine lv_icmp_ge (tgt := 98) hx hb dL_law_12 (by decide) (fun c_12 => ?_) (fun c_12 => ?_)
      · skip
        refine W.widen (k := 292 + 39) (n := 2078 + 234) (by omega) (by omega) ?_
        exact hKx y2_10 σ10 i_10 hi_10 hm_10 (ft_exi hi_10 hm_10 c_12) hj_10 _ _ hP hS ls (lv_sub hl [0, 1, 2] rfl)
      · skip
        have hlt_10 := ft_step hi_10 hm_10 c_12
        have hl5_10 : i_10 + 1 ≤ 3 := hlt_10
        refine lv_aload_n hx hb dL_law_15 rfl (lv_at hl 1 rfl) ?_
        refine va_calli (vx_runSW (As := [.ref (a)]) (rest := []) ⟨hx, hb, hml, hown, hts⟩ (d_L_addTruck l hl0 D Z k sz a σ10 (hJ.pm hj_10) (hJ.ex_addTruck hj_10 (by omega))) (vx_cwSW 1 hts gL_law_L_addTruck rfl rfl rfl (by decide +kernel) ⟨Nat.le_of_ble_eq_true rfl, Nat.le_of_ble_eq_true rfl⟩) (ft_preM hEL hz hS hP) rfl rfl hl.1 rfl (lv_room (Nat.le_of_ble_eq_true rfl)) dL_law_16 ⟨(show 292 + 13 * i_10 + 1 ≤ room_1.cells from ft_rc (by omega)), (show 2078 + 78 * i_10 + 6 ≤ room_1.slots from ft_rs (by omega))⟩) hS (fun _ _ h => h) (fun _ h => h) (fun z_u_16_0 u_16_0 t H1 locs1 ht hvm hw hB hz1 hk1 hS1 => ?_)
        replace hw : u_16_0 = (w_addTruck σ10).2 := congrArg Prod.snd hw
        rw [ht] at hB
        have hP := hB
        have hS := hS1
        clear hS1
        generalize H1 = H at hP hS ⊢
        refine W.widen (k := 293 + 13 * i_10) (n := 2084 + 78 * i_10) (by omega) (by omega) ?_
        have hJ_u_16_0 : J (jc0 + 0) u_16_0 := by rw [hw]; exact hJ.mono (hJ.k_addTruck hj_10 (by omega)) (by omega)
        have hg_u_16_0 : G (u_16_0.1 0) := hJ.gr hJ_u_16_0 (by omega) rfl
        clear hw
        refine lv_pop hx hb dL_law_19 rfl ?_
        refine lv_iconst (v := 0) hx hb dL_law_20 (by decide) ?_
        refine lv_istore_n (lv' := [(3, .int (0)), (0, .ref (b)), (1, .ref (a)), (2, .int (y2_10))]) hx hb dL_law_21 rfl hl (by decide) rfl (fun ls hl => ?_)
        have loop_22 : ∀ (hKx : ∀ (y3_22 : Int32) (σ22 : ft_Sg) (i_22 : Nat) (hi_22 : y3_22 = nI i_22) (hm_22 : i_22 ≤ tn 4) (hx_22 : i_22 = tn 4) (hj_22 : J (jc0 + 0) σ22) (H : Heap) (locs : List Loc) (hP : ft_LW D k Z sz a σ22 H) (hS : va_S (ft_AL sz) s.heap H locs) (ls : Array Slot) (hl : lv_has ls 9 [(0, .ref (b)), (1, .ref (a)), (2, .int (y2_10)), (3, .int (y3_22))]), W p l e room_1 s m #[Value.ref b] below meth c H locs (293 + 13 * i_10 + 8) (2084 + 78 * i_10 + 48) (lw_Z below #[Value.ref b] s) (F0 m 60 ls [])) (n_22 : Nat), ∀ (y3_22 : Int32) (σ22 : ft_Sg) (i_22 : Nat) (hi_22 : y3_22 = nI i_22) (hm_22 : i_22 ≤ tn 4) (hn_22 : tn 4 < n_22 + i_22) (hj_22 : J (jc0 + 0) σ22) (H : Heap) (locs : List Loc) (hP : ft_LW D k Z sz a σ22 H) (hS : va_S (ft_AL sz) s.heap H locs) (ls : Array Slot) (hl : lv_has ls 9 [(0, .ref (b)), (1, .ref (a)), (2, .int (y2_10)), (3, .int (y3_22))]), W p l e room_1 s m #[Value.ref b] below meth c H locs (293 + 13 * i_10 + 2 * i_22) (2084 + 78 * i_10 + 12 * i_22) (lw_Z below #[Value.ref b] s) (F0 m 22 ls []) := by
          intro hKx n_22
          induction n_22 with
          | zero => intro y3_22 σ22 i_22 hi_22 hm_22 hn_22; exact absurd hn_22 (by omega)
          | succ n ih_22 =>
            intro y3_22 σ22 i_22 hi_22 hm_22 hn_22 hj_22 H locs hP hS ls hl
            have hm5_22 : i_22 ≤ 4 := hm_22
            refine lv_iload_n hx hb dL_law_22 rfl (lv_at hl 3 rfl) ?_
            refine lv_iconst (v := 4) hx hb dL_law_23 (by decide) ?_
            refine lv_icmp_ge (tgt := 60) hx hb dL_law_24 (by decide) (fun c_24 => ?_) (fun c_24 => ?_)
            · skip
              refine W.widen (k := 293 + 13 * i_10 + 8) (n := 2084 + 78 * i_10 + 48) (by omega) (by omega) ?_
              exact hKx y3_22 σ22 i_22 hi_22 hm_22 (ft_exi hi_22 hm_22 c_24) hj_22 _ _ hP hS ls (lv_sub hl [0, 1, 2, 3] rfl)
            · skip
              have hlt_22 := ft_step hi_22 hm_22 c_24
              have hl5_22 : i_22 + 1 ≤ 4 := hlt_22
              refine lv_aload_n hx hb dL_law_27 rfl (lv_at hl 1 rfl) ?_
              refine lv_iload_n hx hb dL_law_28 rfl (lv_at hl 2 rfl) ?_
              refine lv_iload_n hx hb dL_law_29 rfl (lv_at hl 3 rfl) ?_
              refine va_calli (vx_runSW (As := [.ref (a), .int (y2_10), .int (y3_22)]) (rest := []) ⟨hx, hb, hml, hown, hts⟩ (d_L_grantPermit l hl0 D Z k sz a σ22 y2_10 y3_22 (hJ.pm hj_22) (hJ.ex_grantPermit _ _ hj_22 (by omega))) (vx_cwSW 3 hts gL_law_L_grantPermit rfl rfl rfl (by decide +kernel) ⟨Nat.le_of_ble_eq_true rfl, Nat.le_of_ble_eq_true rfl⟩) (ft_preM hEL hz hS hP) rfl rfl hl.1 rfl (lv_room (Nat.le_of_ble_eq_true rfl)) dL_law_30 ⟨(show 293 + 13 * i_10 + 2 * i_22 + 1 ≤ room_1.cells from ft_rc (by omega)), (show 2084 + 78 * i_10 + 12 * i_22 + 6 ≤ room_1.slots from ft_rs (by omega))⟩) hS (fun _ _ h => h) (fun _ h => h) (fun z_u_30_1 u_30_1 t H1 locs1 ht hvm hw hB hz1 hk1 hS1 => ?_)
              replace hw : u_30_1 = (w_grantPermit σ22 y2_10 y3_22).2 := congrArg Prod.snd hw
              rw [ht] at hB
              have hP := hB
              have hS := hS1
              clear hS1
              generalize H1 = H at hP hS ⊢
              refine W.widen (k := 294 + 13 * i_10 + 2 * i_22) (n := 2090 + 78 * i_10 + 12 * i_22) (by omega) (by omega) ?_
              have hJ_u_30_1 : J (jc0 + 0) u_30_1 := by rw [hw]; exact hJ.mono (hJ.k_grantPermit _ _ hj_22 (by omega)) (by omega)
              have hg_u_30_1 : G (u_30_1.1 0) := hJ.gr hJ_u_30_1 (by omega) rfl
              clear hw
              refine lv_pop hx hb dL_law_33 rfl ?_
              refine lv_aload_n hx hb dL_law_34 rfl (lv_at hl 1 rfl) ?_
              refine lv_iload_n hx hb dL_law_35 rfl (lv_at hl 2 rfl) ?_
              refine lv_iload_n hx hb dL_law_36 rfl (lv_at hl 2 rfl) ?_
              refine lv_aload_n hx hb dL_law_37 rfl (lv_at hl 0 rfl) ?_
              refine lv_iload_n hx hb dL_law_38 rfl (lv_at hl 3 rfl) ?_
              refine vp_callSi (va_Run.run (va_runS (As := [.ref b, .int (y3_22)]) (rest := [.int (y2_10), .int (y2_10), .ref (a)]) ⟨hx, hb, hml, hown, hts⟩ (c_L_cell l b L xs hL y3_22) (va_cwS 2 hts gL_law_L_cell rfl rfl rfl (by decide +kernel) ⟨Nat.le_of_ble_eq_true rfl, Nat.le_of_ble_eq_true rfl⟩) (ft_preC hX hbl hbA hS) rfl rfl hl.1 rfl (lv_room (Nat.le_of_ble_eq_true rfl)) dL_law_39 ⟨(show 294 + 13 * i_10 + 2 * i_22 + 0 ≤ room_1.cells from ft_rc (by omega)), (show 2090 + 78 * i_10 + 12 * i_22 + 0 ≤ room_1.slots from ft_rs (by omega))⟩)) (fun z_39 hz9 => ?_)
              clear hz9
              refine lv_iconst (v := 5) hx hb dL_law_42 (by decide) ?_
              refine lv_ishr hx hb dL_law_43 ?_
              refine lv_iconst (v := 1) hx hb dL_law_44 (by decide) ?_
              refine lv_iand hx hb dL_law_45 ?_
              refine lv_iadd hx hb dL_law_46 ?_
              refine lv_iconst (v := 5) hx hb dL_law_47 (by decide) ?_
              refine lv_irem hx hb dL_law_48 (by decide) ?_
              refine lv_iload_n hx hb dL_law_49 rfl (lv_at hl 3 rfl) ?_
              refine va_calli (vx_runSW (As := [.ref (a), .int (y2_10), .int ((y2_10 + ((z_39 >>> ((5 : Int32) &&& 31)) &&& 1)) - (y2_10 + ((z_39 >>> ((5 : Int32) &&& 31)) &&& 1)) / 5 * 5), .int (y3_22)]) (rest := []) ⟨hx, hb, hml, hown, hts⟩ (d_L_assign l hl0 D Z k sz a u_30_1 y2_10 ((y2_10 + ((z_39 >>> ((5 : Int32) &&& 31)) &&& 1)) - (y2_10 + ((z_39 >>> ((5 : Int32) &&& 31)) &&& 1)) / 5 * 5) y3_22 (hJ.pm hJ_u_30_1) (hJ.ex_assign _ _ _ hJ_u_30_1 (by omega))) (vx_cwSW 4 hts gL_law_L_assign rfl rfl rfl (by decide +kernel) ⟨Nat.le_of_ble_eq_true rfl, Nat.le_of_ble_eq_true rfl⟩) (ft_preM hEL hz hS hP) rfl rfl hl.1 rfl (lv_room (Nat.le_of_ble_eq_true rfl)) dL_law_50 ⟨(show 294 + 13 * i_10 + 2 * i_22 + 1 ≤ room_1.cells from ft_rc (by omega)), (show 2090 + 78 * i_10 + 12 * i_22 + 6 ≤ room_1.slots from ft_rs (by omega))⟩) hS (fun _ _ h => h) (fun _ h => h) (fun z_u_50_2 u_50_2 t H1 locs1 ht hvm hw hB hz1 hk1 hS1 => ?_)
              replace hw : u_50_2 = (w_assign u_30_1 y2_10 ((y2_10 + ((z_39 >>> ((5 : Int32) &&& 31)) &&& 1)) - (y2_10 + ((z_39 >>> ((5 : Int32) &&& 31)) &&& 1)) / 5 * 5) y3_22).2 := congrArg Prod.snd hw
              rw [ht] at hB
              have hP := hB
              have hS := hS1
              clear hS1
              generalize H1 = H at hP hS ⊢
              refine W.widen (k := 295 + 13 * i_10 + 2 * i_22) (n := 2096 + 78 * i_10 + 12 * i_22) (by omega) (by omega) ?_
              have hJ_u_50_2 : J (jc0 + 0) u_50_2 := by rw [hw]; exact hJ.mono (hJ.k_assign _ _ _ hJ_u_30_1 (by omega)) (by omega)
              have hg_u_50_2 : G (u_50_2.1 0) := hJ.gr hJ_u_50_2 (by omega) rfl
              clear hw
              refine lv_pop hx hb dL_law_53 rfl ?_
              refine lv_iinc (v := y3_22 + 1) (lv' := [(3, .int (y3_22 + 1)), (0, .ref (b)), (1, .ref (a)), (2, .int (y2_10))]) hx hb dL_law_54 hl (k := 3) rfl rfl (by decide) rfl (fun ls hl => ?_)
              refine lv_goto (tgt := 22) hx hb dL_law_57 (by decide) ?_
              refine W.widen (k := 293 + 13 * i_10 + 2 * (i_22 + 1)) (n := 2084 + 78 * i_10 + 12 * (i_22 + 1)) (by omega) (by omega) ?_
              exact ih_22 (y3_22 + 1) u_50_2 (i_22 + 1) (by rw [hi_22, nI_1]) hlt_22 (by omega) (show J (jc0 + 0) u_50_2 from hJ.mono hJ_u_50_2 (by omega))  _ _ hP hS ls (lv_sub hl [1, 2, 3, 0] rfl)
        refine W.widen (k := 293 + 13 * i_10 + 2 * 0) (n := 2084 + 78 * i_10 + 12 * 0) (by omega) (by omega) ?_
        refine loop_22 (fun y3_22 σ22 i_22 hi_22 hm_22 hx_22 hj_22 H locs hP hS ls hl => ?_) (tn 4 + 1) 0 u_16_0 0 rfl (Nat.zero_le _) (by omega) (show J (jc0 + 0) u_16_0 from hJ.mono hJ_u_16_0 (by omega))  _ _ hP hS ls (lv_sub hl [1, 2, 3, 0] rfl)
        have hm5_22 : i_22 ≤ 4 := hm_22
        refine W.widen (k := 301 + 13 * i_10) (n := 2132 + 78 * i_10) (by omega) (by omega) ?_
        refine lv_iconst (v := 0) hx hb dL_law_60 (by decide) ?_
        refine lv_istore_n (lv' := [(3, .int (0)), (0, .ref (b)), (1, .ref (a)), (2, .int (y2_10))]) hx hb dL_law_61 rfl hl (by decide) rfl (fun ls hl => ?_)
        have loop_62 : ∀ (hKx : ∀ (y3_62 : Int32) (σ62 : ft_Sg) (i_62 : Nat) (hi_62 : y3_62 = nI i_62) (hm_62 : i_62 ≤ tn 4) (hx_62 : i_62 = tn 4) (hj_62 : J (jc0 + 0) σ62) (H : Heap) (locs : List Loc) (hP : ft_LW D k Z sz a σ62 H) (hS : va_S (ft_AL sz) s.heap H locs) (ls : Array Slot) (hl : lv_has ls 9 [(0, .ref (b)), (1, .ref (a)), (2, .int (y2_10)), (3, .int (y3_62))]), W p l e room_1 s m #[Value.ref b] below meth c H locs (301 + 13 * i_10 + 4) (2132 + 78 * i_10 + 24) (lw_Z below #[Value.ref b] s) (F0 m 92 ls [])) (n_62 : Nat), ∀ (y3_62 : Int32) (σ62 : ft_Sg) (i_62 : Nat) (hi_62 : y3_62 = nI i_62) (hm_62 : i_62 ≤ tn 4) (hn_62 : tn 4 < n_62 + i_62) (hj_62 : J (jc0 + 0) σ62) (H : Heap) (locs : List Loc) (hP : ft_LW D k Z sz a σ62 H) (hS : va_S (ft_AL sz) s.heap H locs) (ls : Array Slot) (hl : lv_has ls 9 [(0, .ref (b)), (1, .ref (a)), (2, .int (y2_10)), (3, .int (y3_62))]), W p l e room_1 s m #[Value.ref b] below meth c H locs (301 + 13 * i_10 + 1 * i_62) (2132 + 78 * i_10 + 6 * i_62) (lw_Z below #[Value.ref b] s) (F0 m 62 ls []) := by
          intro hKx n_62
          induction n_62 with
          | zero => intro y3_62 σ62 i_62 hi_62 hm_62 hn_62; exact absurd hn_62 (by omega)
          | succ n ih_62 =>
            intro y3_62 σ62 i_62 hi_62 hm_62 hn_62 hj_62 H locs hP hS ls hl
            have hm5_62 : i_62 ≤ 4 := hm_62
            refine lv_iload_n hx hb dL_law_62 rfl (lv_at hl 3 rfl) ?_
            refine lv_iconst (v := 4) hx hb dL_law_63 (by decide) ?_
            refine lv_icmp_ge (tgt := 92) hx hb dL_law_64 (by decide) (fun c_64 => ?_) (fun c_64 => ?_)
            · skip
              refine W.widen (k := 301 + 13 * i_10 + 4) (n := 2132 + 78 * i_10 + 24) (by omega) (by omega) ?_
              exact hKx y3_62 σ62 i_62 hi_62 hm_62 (ft_exi hi_62 hm_62 c_64) hj_62 _ _ hP hS ls (lv_sub hl [0, 1, 2, 3] rfl)
            · skip
              have hlt_62 := ft_step hi_62 hm_62 c_64
              have hl5_62 : i_62 + 1 ≤ 4 := hlt_62
              refine lv_aload_n hx hb dL_law_67 rfl (lv_at hl 1 rfl) ?_
              refine lv_iload_n hx hb dL_law_68 rfl (lv_at hl 2 rfl) ?_
              refine lv_iload_n hx hb dL_law_69 rfl (lv_at hl 3 rfl) ?_
              refine lv_aload_n hx hb dL_law_70 rfl (lv_at hl 0 rfl) ?_
              refine lv_iload_n hx hb dL_law_71 rfl (lv_at hl 2 rfl) ?_
              refine lv_iload_n hx hb dL_law_72 rfl (lv_at hl 3 rfl) ?_
              refine lv_iadd hx hb dL_law_73 ?_
              refine vp_callSi (va_Run.run (va_runS (As := [.ref b, .int (y2_10 + y3_62)]) (rest := [.int (y3_62), .int (y2_10), .ref (a)]) ⟨hx, hb, hml, hown, hts⟩ (c_L_cell l b L xs hL (y2_10 + y3_62)) (va_cwS 2 hts gL_law_L_cell rfl rfl rfl (by decide +kernel) ⟨Nat.le_of_ble_eq_true rfl, Nat.le_of_ble_eq_true rfl⟩) (ft_preC hX hbl hbA hS) rfl rfl hl.1 rfl (lv_room (Nat.le_of_ble_eq_true rfl)) dL_law_74 ⟨(show 301 + 13 * i_10 + 1 * i_62 + 0 ≤ room_1.cells from ft_rc (by omega)), (show 2132 + 78 * i_10 + 6 * i_62 + 0 ≤ room_1.slots from ft_rs (by omega))⟩)) (fun z_74 hz9 => ?_)
              clear hz9
              refine lv_iconst (v := 4) hx hb dL_law_77 (by decide) ?_
              refine lv_ishr hx hb dL_law_78 ?_
              refine lv_bipush (v := 15) hx hb dL_law_79 (by decide) ?_
              refine lv_iand hx hb dL_law_81 ?_
              refine va_calli (vx_runSW (As := [.ref (a), .int (y2_10), .int (y3_62), .int ((z_74 >>> ((4 : Int32) &&& 31)) &&& 15)]) (rest := []) ⟨hx, hb, hml, hown, hts⟩ (d_L_addStock l hl0 D Z k sz a σ62 y2_10 y3_62 ((z_74 >>> ((4 : Int32) &&& 31)) &&& 15) (hJ.pm hj_62) (hJ.ex_addStock _ _ _ hj_62 (by omega))) (vx_cwSW 4 hts gL_law_L_addStock rfl rfl rfl (by decide +kernel) ⟨Nat.le_of_ble_eq_true rfl, Nat.le_of_ble_eq_true rfl⟩) (ft_preM hEL hz hS hP) rfl rfl hl.1 rfl (lv_room (Nat.le_of_ble_eq_true rfl)) dL_law_82 ⟨(show 301 + 13 * i_10 + 1 * i_62 + 1 ≤ room_1.cells from ft_rc (by omega)), (show 2132 + 78 * i_10 + 6 * i_62 + 6 ≤ room_1.slots from ft_rs (by omega))⟩) hS (fun _ _ h => h) (fun _ h => h) (fun z_u_82_3 u_82_3 t H1 locs1 ht hvm hw hB hz1 hk1 hS1 => ?_)
              replace hw : u_82_3 = (w_addStock σ62 y2_10 y3_62 ((z_74 >>> ((4 : Int32) &&& 31)) &&& 15)).2 := congrArg Prod.snd hw
              rw [ht] at hB
              have hP := hB
              have hS := hS1
              clear hS1
              generalize H1 = H at hP hS ⊢
              refine W.widen (k := 302 + 13 * i_10 + 1 * i_62) (n := 2138 + 78 * i_10 + 6 * i_62) (by omega) (by omega) ?_
              have hJ_u_82_3 : J (jc0 + 0) u_82_3 := by rw [hw]; exact hJ.mono (hJ.k_addStock _ _ _ hj_62 (by omega)) (by omega)
              have hg_u_82_3 : G (u_82_3.1 0) := hJ.gr hJ_u_82_3 (by omega) rfl
              clear hw
              refine lv_pop hx hb dL_law_85 rfl ?_
              refine lv_iinc (v := y3_62 + 1) (lv' := [(3, .int (y3_62 + 1)), (0, .ref (b)), (1, .ref (a)), (2, .int (y2_10))]) hx hb dL_law_86 hl (k := 3) rfl rfl (by decide) rfl (fun ls hl => ?_)
              refine lv_goto (tgt := 62) hx hb dL_law_89 (by decide) ?_
              refine W.widen (k := 301 + 13 * i_10 + 1 * (i_62 + 1)) (n := 2132 + 78 * i_10 + 6 * (i_62 + 1)) (by omega) (by omega) ?_
              exact ih_62 (y3_62 + 1) u_82_3 (i_62 + 1) (by rw [hi_62, nI_1]) hlt_62 (by omega) (show J (jc0 + 0) u_82_3 from hJ.mono hJ_u_82_3 (by omega))  _ _ hP hS ls (lv_sub hl [1, 2, 3, 0] rfl)
        refine W.widen (k := 301 + 13 * i_10 + 1 * 0) (n := 2132 + 78 * i_10 + 6 * 0) (by omega) (by omega) ?_
        refine loop_62 (fun y3_62 σ62 i_62 hi_62 hm_62 hx_62 hj_62 H locs hP hS ls hl => ?_) (tn 4 + 1) 0 σ22 0 rfl (Nat.zero_le _) (by omega) (show J (jc0 + 0) σ22 from hJ.mono hj_22 (by omega))  _ _ hP hS ls (lv_sub hl [1, 2, 3, 0] rfl)
        have hm5_62 : i_62 ≤ 4 := hm_62
        refine W.widen (k := 305 + 13 * i_10) (n := 2156 + 78 * i_10) (by omega) (by omega) ?_
        refine lv_iinc (v := y2_10 + 1) (lv' := [(2, .int (y2_10 + 1)), (0, .ref (b)), (1, .ref (a)), (3, .int (y3_62))]) hx hb dL_law_92 hl (k := 2) rfl rfl (by decide) rfl (fun ls hl => ?_)
        refine lv_goto (tgt := 10) hx hb dL_law_95 (by decide) ?_
        refine W.widen (k := 292 + 13 * (i_10 + 1)) (n := 2078 + 78 * (i_10 + 1)) (by omega) (by omega) ?_
        exact ih_10 (y2_10 + 1) σ62 (i_10 + 1) (by rw [hi_10, nI_1]) hlt_10 (by omega) (show J (jc0 + 0) σ62 from hJ.mono hj_62 (by omega))  _ _ hP hS ls (lv_sub hl [1, 2, 0] rfl)
  refine W.widen (k := 292 + 13 * 0) (n := 2078 + 78 * 0) (by omega) (by omega) ?_
  refine loop_10 (fun y2_10 σ10 i_10 hi_10 hm_10 hx_10 hj_10 H locs hP hS ls hl => ?_) (tn 3 + 1) 0 σ 0 rfl (Nat.zero_le _) (by omega) (show J (jc0 + 0) σ from hJ.mono h0 (by omega))  _ _ hP hS ls (lv_sub hl [2, 1, 0] rfl)
  have hm5_10 : i_10 ≤ 3 := hm_10
  refine W.widen (k := 331) (n := 2312) (by omega) (by omega) ?_
  refine lv_aload_n hx hb dL_law_98 rfl (lv_at hl 1 rfl) ?_
  refine lv_iconst (v := 1) hx hb dL_law_99 (by decide) ?_
  refine lv_aload_n hx hb dL_law_100 rfl (lv_at hl 0 rfl) ?_
  refine lv_iconst (v := 0) hx hb dL_law_101 (by decide) ?_
  refine vp_callSi (va_Run.run (va_runS (As := [.ref b, .int (0)]) (rest := [.int (1), .ref (a)]) ⟨hx, hb, hml, hown, hts⟩ (c_L_cell l b L xs hL 0) (va_cwS 2 hts gL_law_L_cell rfl rfl rfl (by decide +kernel) ⟨Nat.le_of_ble_eq_true rfl, Nat.le_of_ble_eq_true rfl⟩) (ft_preC hX hbl hbA hS) rfl rfl hl.1 rfl (lv_room (Nat.le_of_ble_eq_true rfl)) dL_law_102 ⟨Nat.le_of_ble_eq_true rfl, Nat.le_of_ble_eq_true rfl⟩)) (fun z_102 hz9 => ?_)
  clear hz9
  refine lv_iconst (v := 3) hx hb dL_law_105 (by decide) ?_
  refine lv_ishr hx hb dL_law_106 ?_
  refine lv_iconst (v := 1) hx hb dL_law_107 (by decide) ?_
  refine lv_iand hx hb dL_law_108 ?_
  refine lv_iadd hx hb dL_law_109 ?_
  refine va_calli (vx_runSW (As := [.ref (a), .int (1 + ((z_102 >>> ((3 : Int32) &&& 31)) &&& 1))]) (rest := []) ⟨hx, hb, hml, hown, hts⟩ (d_L_setWeather l hl0 D Z k sz a σ10 (1 + ((z_102 >>> ((3 : Int32) &&& 31)) &&& 1)) (hJ.pm hj_10) (hJ.ex_setWeather _ hj_10 (by omega))) (vx_cwSW 2 hts gL_law_L_setWeather rfl rfl rfl (by decide +kernel) ⟨Nat.le_of_ble_eq_true rfl, Nat.le_of_ble_eq_true rfl⟩) (ft_preM hEL hz hS hP) rfl rfl hl.1 rfl (lv_room (Nat.le_of_ble_eq_true rfl)) dL_law_110 ⟨Nat.le_of_ble_eq_true rfl, Nat.le_of_ble_eq_true rfl⟩) hS (fun _ _ h => h) (fun _ h => h) (fun z_u_110_4 u_110_4 t H1 locs1 ht hvm hw hB hz1 hk1 hS1 => ?_)
  replace hw : u_110_4 = (w_setWeather σ10 (1 + ((z_102 >>> ((3 : Int32) &&& 31)) &&& 1))).2 := congrArg Prod.snd hw
  rw [ht] at hB
  have hP := hB
  have hS := hS1
  clear hS1
  generalize H1 = H at hP hS ⊢
  refine W.widen (k := 332) (n := 2318) (by omega) (by omega) ?_
  have hJ_u_110_4 : J (jc0 + 0) u_110_4 := by rw [hw]; exact hJ.mono (hJ.k_setWeather _ hj_10 (by omega)) (by omega)
  have hg_u_110_4 : G (u_110_4.1 0) := hJ.gr hJ_u_110_4 (by omega) rfl
  clear hw
  refine lv_pop hx hb dL_law_113 rfl ?_
  refine lv_aload_n hx hb dL_law_114 rfl (lv_at hl 0 rfl) ?_
  refine va_slen hx hb hX hbl hbA hS dL_law_115 ?_
  refine lv_bipush (v := 36) hx hb dL_law_116 (by decide) ?_
  refine lv_icmp_ge (tgt := 126) hx hb dL_law_118 (by decide) (fun c_118 => ?_) (fun c_118 => ?_)
  · skip
    refine lv_bipush (v := 36) hx hb dL_law_126 (by decide) ?_
    exact law_B l hl0 b L xs hL hx hb hr hml hown hts hX hbl hlocks D Z k sz a hEL hz hzs J G T hJ u_110_4 (jc0 + 0) hJ_u_110_4 (by omega) 36 (by decide) _ _ hP hS ls (lv_sub hl [0, 1] rfl)
  · skip
    refine lv_aload_n hx hb dL_law_121 rfl (lv_at hl 0 rfl) ?_
    refine va_slen hx hb hX hbl hbA hS dL_law_122 ?_
    refine lv_goto (tgt := 128) hx hb dL_law_123 (by decide) ?_
    exact law_B l hl0 b L xs hL hx hb hr hml hown hts hX hbl hlocks D Z k sz a hEL hz hzs J G T hJ u_110_4 (jc0 + 0) hJ_u_110_4 (by omega) (nI L) (by rw [ft_L36 hL]; have h9 : ¬ nI 36 ≤ nI L := c_118; rw [nI_leI (by decide) (by omega)] at h9; omega) _ _ hP hS ls (lv_sub hl [0, 1] rfl)
