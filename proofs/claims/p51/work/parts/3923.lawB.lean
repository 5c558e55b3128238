set_option maxHeartbeats 4000000 in
set_option maxRecDepth 100000 in
theorem c_L_write (l : Launch) (hl0 : l.stackTraces = false) (D : va_G) (Z : Nat → Nat → Nat) (k : Nat → ClassId) (sz : ft_SZ) (a : Nat) (σ : ft_Sg) (J : Nat → ft_Sg → Prop) (G : (Nat → Int32) → Prop) (T : Nat → Nat → ft_Sg → Prop) (hJ : ft_JJ J G T) (jc0 : Nat) (h0 : J jc0 σ) (hc : jc0 + 0 ≤ 1000) (r : Nat → Int32) (hq : σ.1 0 = r) (j : Nat) (hj : j < 28) : Met l yL_write wsL_write ({ frames := 8, cells := 25, slots := 3750, locals := 285 }) (ft_PM D k Z sz a σ [.ref a, .ref (Z 4 j)]) (ft_QRr J D k Z sz a (jc0 + 0) (fun u => ft_zp σ u ∧ (T j 0 σ → T j (ft_scn.getD j 0) u))) 25 3750 (ft_AL sz) := by
  refine Met.ofW (cc := cL_write) (maxL := 3) (ret := (some (.object "FoodTruckRota"))) (by decide) rfl ?_
  intro p e s m args below meth c s₁ B hml hv
  obtain ⟨hargs, hP, hEL, hz⟩ := hv
  have hE := hEL.1
  subst hargs
  have hx := B.exec
  have hb := B.bytes
  have hr := B.returns
  have hts := atoms_spec (ws := wsL_write) B.pre
  have hown : s.vm.findClass RL = some m.cls := findClass_of_methodNamed B.named
  have hlocks := B.notSynchronized
  have hS : va_S (ft_AL sz) s.heap s.heap [] := va_S.rf
  have hg : G r := hJ.gr h0 (by omega) hq
  have hl := lv_entry ([.ref a, .ref (Z 4 j)]) (n := 3) (Nat.le_of_ble_eq_true rfl)
  rw [lg_entry_eq]
  generalize (lg_sl ([.ref a, .ref (Z 4 j)]) ++ List.replicate (3 - (lg_sl ([.ref a, .ref (Z 4 j)])).length) Slot.unset).toArray = ls at hl ⊢
  have hl : lv_has ls 3 [(0, .ref (a)), (1, .ref (Z 4 j))] := hl
  refine lv_iconst (v := 0) hx hb dL_write_0 (by decide) ?_
  refine lv_istore_n (lv' := [(2, .int (0)), (0, .ref (a)), (1, .ref (Z 4 j))]) hx hb dL_write_1 rfl hl (by decide) rfl (fun ls hl => ?_)
  have hbn_2 : tn (nI (ft_scn.getD j 0)) ≤ 25 := ft_tb25 hj
  have loop_2 : ∀ (hKx : ∀ (y2_2 : Int32) (σ2 : ft_Sg) (i_2 : Nat) (hi_2 : y2_2 = nI i_2) (hm_2 : i_2 ≤ tn (nI (ft_scn.getD j 0))) (hx_2 : i_2 = tn (nI (ft_scn.getD j 0))) (hj_2 : J (jc0 + 0) σ2) (hq_2 : σ2.1 0 = r) (hp_2 : ft_zp σ σ2 ∧ (T j 0 σ → T j i_2 σ2)) (H : Heap) (locs : List Loc) (hP : ft_LW D k Z sz a σ2 H) (hS : va_S (ft_AL sz) s.heap H locs) (ls : Array Slot) (hl : lv_has ls 3 [(0, .ref (a)), (1, .ref (Z 4 j)), (2, .int (y2_2))]), W p l e (headSpec wsL_write ({ frames := 8, cells := 25, slots := 3750, locals := 285 })).room s m ([.ref a, .ref (Z 4 j)] : List Value).toArray below meth c H locs (0 + 25) (0 + 3750) (MQ below (ft_QRr J D k Z sz a (jc0 + 0) (fun u => ft_zp σ u ∧ (T j 0 σ → T j (ft_scn.getD j 0) u))) ([.ref a, .ref (Z 4 j)] : List Value).toArray s 25 3750 (ft_AL sz)) (F0 m 26 ls [])) (n_2 : Nat), ∀ (y2_2 : Int32) (σ2 : ft_Sg) (i_2 : Nat) (hi_2 : y2_2 = nI i_2) (hm_2 : i_2 ≤ tn (nI (ft_scn.getD j 0))) (hn_2 : tn (nI (ft_scn.getD j 0)) < n_2 + i_2) (hj_2 : J (jc0 + 0) σ2) (hq_2 : σ2.1 0 = r) (hp_2 : ft_zp σ σ2 ∧ (T j 0 σ → T j i_2 σ2)) (H : Heap) (locs : List Loc) (hP : ft_LW D k Z sz a σ2 H) (hS : va_S (ft_AL sz) s.heap H locs) (ls : Array Slot) (hl : lv_has ls 3 [(0, .ref (a)), (1, .ref (Z 4 j)), (2, .int (y2_2))]), W p l e (headSpec wsL_write ({ frames := 8, cells := 25, slots := 3750, locals := 285 })).room s m ([.ref a, .ref (Z 4 j)] : List Value).toArray below meth c H locs (0 + 1 * i_2) (0 + 150 * i_2) (MQ below (ft_QRr J D k Z sz a (jc0 + 0) (fun u => ft_zp σ u ∧ (T j 0 σ → T j (ft_scn.getD j 0) u))) ([.ref a, .ref (Z 4 j)] : List Value).toArray s 25 3750 (ft_AL sz)) (F0 m 2 ls []) := by
    intro hKx n_2
    induction n_2 with
    | zero => intro y2_2 σ2 i_2 hi_2 hm_2 hn_2; exact absurd hn_2 (by omega)
    | succ n ih_2 =>
      intro y2_2 σ2 i_2 hi_2 hm_2 hn_2 hj_2 hq_2 hp_2 H locs hP hS ls hl
      have hm5_2 : i_2 ≤ 25 := Nat.le_trans hm_2 hbn_2
      refine lv_iload_n hx hb dL_write_2 rfl (lv_at hl 2 rfl) ?_
      refine lv_aload_n hx hb dL_write_3 rfl (lv_at hl 1 rfl) ?_
      refine vp_callSi (va_Run.run (va_runV (As := []) (rest := [.int (y2_2)]) ⟨hx, hb, hml, hown, hts⟩ (c_J0_length_8abf5 l D Z (ft_AL sz) k (Z 4 j) (Z 5 j) (ft_scn.getD j 0) (fun j9 => (ft_scy.getD j []).getD j9 0) ) (cwV 0 hts gL_write_J0_length_8abf5 rfl rfl rfl (by decide +kernel) ⟨Nat.le_of_ble_eq_true rfl, Nat.le_of_ble_eq_true rfl⟩) (ft_preVx hE hS (fun _ h => h) (hEL.2.2.2.1.2.2.1 j hj)) rfl rfl hl.1 rfl (lv_room (Nat.le_of_ble_eq_true rfl)) dL_write_4 ⟨(show 0 + 1 * i_2 + 0 ≤ 25 by omega), (show 0 + 150 * i_2 + 0 ≤ 3750 by omega)⟩)) (fun z hz9 => ?_)
      subst hz9
      refine lv_icmp_ge (tgt := 26) hx hb dL_write_7 (by decide) (fun c_7 => ?_) (fun c_7 => ?_)
      · skip
        refine W.widen (k := 0 + 25) (n := 0 + 3750) (by omega) (by omega) ?_
        exact hKx y2_2 σ2 i_2 hi_2 hm_2 (ft_exi hi_2 hm_2 c_7) hj_2 hq_2 hp_2 _ _ hP hS ls (lv_sub hl [0, 1, 2] rfl)
      · skip
        have hlt_2 := ft_step hi_2 hm_2 c_7
        have hl5_2 : i_2 + 1 ≤ 25 := Nat.le_trans hlt_2 hbn_2
        refine lv_aload_n hx hb dL_write_10 rfl (lv_at hl 0 rfl) ?_
        refine lv_aload_n hx hb dL_write_11 rfl (lv_at hl 1 rfl) ?_
        refine lv_iload_n hx hb dL_write_12 rfl (lv_at hl 2 rfl) ?_
        refine vp_callSi (va_Run.run (va_runV (As := [.int (y2_2)]) (rest := [.ref (a)]) ⟨hx, hb, hml, hown, hts⟩ (c_J0_charAt_5068e l D Z (ft_AL sz) k (Z 4 j) (Z 5 j) (ft_scn.getD j 0) (fun j9 => (ft_scy.getD j []).getD j9 0) y2_2 (tn y2_2) (ft_tb2 hj hi_2 hlt_2).1 (ft_tb2 hj hi_2 hlt_2).2 (ft_tb3 hj)) (cwV 1 hts gL_write_J0_charAt_5068e rfl rfl rfl (by decide +kernel) ⟨Nat.le_of_ble_eq_true rfl, Nat.le_of_ble_eq_true rfl⟩) (ft_preVx hE hS (fun _ h => h) (hEL.2.2.2.1.2.2.1 j hj)) rfl rfl hl.1 rfl (lv_room (Nat.le_of_ble_eq_true rfl)) dL_write_13 ⟨(show 0 + 1 * i_2 + 0 ≤ 25 by omega), (show 0 + 150 * i_2 + 0 ≤ 3750 by omega)⟩)) (fun z hz9 => ?_)
        subst hz9
        refine va_calli (vx_runSW (As := [.ref (a), .int (ft_ch ((ft_scy.getD j []).getD (tn y2_2) 0))]) (rest := []) ⟨hx, hb, hml, hown, hts⟩ (d_L_put l hl0 D Z k sz a σ2 (ft_ch ((ft_scy.getD j []).getD (tn y2_2) 0)) (hJ.pm hj_2) (hJ.ok9 hj_2) (hJ.ex_put _  (ft_scb j hj (tn y2_2) (ft_tb2 hj hi_2 hlt_2).2).1 (ft_scb j hj (tn y2_2) (ft_tb2 hj hi_2 hlt_2).2).2 hj_2 (by omega))) (vx_cwSW 2 hts gL_write_L_put rfl rfl rfl (by decide +kernel) ⟨Nat.le_of_ble_eq_true rfl, Nat.le_of_ble_eq_true rfl⟩) (ft_preM hEL hz hS hP) rfl rfl hl.1 rfl (lv_room (Nat.le_of_ble_eq_true rfl)) dL_write_16 ⟨(show 0 + 1 * i_2 + 1 ≤ 25 by omega), (show 0 + 150 * i_2 + 150 ≤ 3750 by omega)⟩) hS (fun _ _ h => h) (fun _ h => h) (fun z u t H1 locs1 ht hvm hw hB hz1 hk1 hS1 => ?_)
        obtain ⟨rfl, rfl⟩ : z = (w_put σ2 (ft_ch ((ft_scy.getD j []).getD (tn y2_2) 0))).1 ∧ u = (w_put σ2 (ft_ch ((ft_scy.getD j []).getD (tn y2_2) 0))).2 := ⟨congrArg Prod.fst hw, congrArg Prod.snd hw⟩
        rw [ht] at hB
        have hP := hB
        have hS := hS1
        clear hS1
        generalize H1 = H at hP hS ⊢
        refine W.widen (k := 1 + 1 * i_2) (n := 150 + 150 * i_2) (by omega) (by omega) ?_
        have hJ_16_0 : J (jc0 + 0) (w_put σ2 (ft_ch ((ft_scy.getD j []).getD (tn y2_2) 0))).2 := hJ.mono (hJ.k_put _  (ft_scb j hj (tn y2_2) (ft_tb2 hj hi_2 hlt_2).2).1 (ft_scb j hj (tn y2_2) (ft_tb2 hj hi_2 hlt_2).2).2 hj_2 (by omega)) (by omega)
        have hq_16_1 : (w_put σ2 (ft_ch ((ft_scy.getD j []).getD (tn y2_2) 0))).2.1 0 = r := (hJ.sp_put _).row.trans hq_2
        refine lv_pop hx hb dL_write_19 rfl ?_
        refine lv_iinc (v := y2_2 + 1) (lv' := [(2, .int (y2_2 + 1)), (0, .ref (a)), (1, .ref (Z 4 j))]) hx hb dL_write_20 hl (k := 2) rfl rfl (by decide) rfl (fun ls hl => ?_)
        refine lv_goto (tgt := 2) hx hb dL_write_23 (by decide) ?_
        refine W.widen (k := 0 + 1 * (i_2 + 1)) (n := 0 + 150 * (i_2 + 1)) (by omega) (by omega) ?_
        exact ih_2 (y2_2 + 1) ((w_put σ2 (ft_ch ((ft_scy.getD j []).getD (tn y2_2) 0))).2) (i_2 + 1) (by rw [hi_2, nI_1]) hlt_2 (by omega) (show J (jc0 + 0) ((w_put σ2 (ft_ch ((ft_scy.getD j []).getD (tn y2_2) 0))).2) from hJ.mono hJ_16_0 (by omega)) hq_16_1 (⟨hp_2.1.tr (hJ.sp_put _), fun h9 => by have h8 := hJ.tx1 hj_2 (hp_2.2 h9) hj (by have h7 := (ft_tb2 hj hi_2 hlt_2).2; rw [ft_tb4 hj hi_2 hlt_2] at h7; exact h7); rw [ft_tb4 hj hi_2 hlt_2]; exact h8⟩) _ _ hP hS ls (lv_sub hl [1, 2, 0] rfl)
  refine W.widen (k := 0 + 1 * 0) (n := 0 + 150 * 0) (by omega) (by omega) ?_
  refine loop_2 (fun y2_2 σ2 i_2 hi_2 hm_2 hx_2 hj_2 hq_2 hp_2 H locs hP hS ls hl => ?_) (tn (nI (ft_scn.getD j 0)) + 1) 0 σ 0 rfl (Nat.zero_le _) (by omega) (show J (jc0 + 0) σ from hJ.mono h0 (by omega)) hq (⟨ft_zp.rf, id⟩) _ _ hP hS ls (lv_sub hl [1, 2, 0] rfl)
  have hm5_2 : i_2 ≤ 25 := Nat.le_trans hm_2 hbn_2
  refine W.widen (k := 25) (n := 3750) (by omega) (by omega) ?_
  refine lv_aload_n hx hb dL_write_26 rfl (lv_at hl 0 rfl) ?_
  refine W.widen (k := 25) (n := 3750) (by omega) (by omega) ?_
  exact W.aret (v := .ref a) hx hb hr (Or.inl ⟨_, rfl⟩) (Or.inr ⟨_, rfl⟩) (fun t ht hW => ⟨⟨σ2, a, rfl, ⟨⟨hp_2.1, fun h9 => by have h8 := hp_2.2 h9; rw [hx_2, ft_tbn hj] at h8; exact h8⟩, hJ.mono hj_2 (by omega)⟩, rfl, by show ft_LW D k Z sz a _ t.heap; rw [ht]; exact hP⟩, hS.F ht⟩) hS.2.2 dL_write_27

set_option maxHeartbeats 4000000 in
set_option maxRecDepth 100000 in
theorem c_L_isRota (l : Launch) (hl0 : l.stackTraces = false) (D : va_G) (Z : Nat → Nat → Nat) (k : Nat → ClassId) (sz : ft_SZ) (a : Nat) (σ : ft_Sg) (J : Nat → ft_Sg → Prop) (G : (Nat → Int32) → Prop) (T : Nat → Nat → ft_Sg → Prop) (hJ : ft_JJ J G T) (jc0 : Nat) (h0 : J jc0 σ) (hc : jc0 + 0 ≤ 1000) (r : Nat → Int32) (hq : σ.1 0 = r) : Met l yL_isRota wsL_isRota ({ frames := 10, cells := 476, slots := 7896, locals := 247 }) (ft_PM D k Z sz a σ [.ref a]) (ft_QR J D k Z sz a (jc0 + 0) (fun z u => z = 1 ∧ ft_zm σ u)) 476 7896 (ft_AL sz) := by
  refine Met.ofW (cc := cL_isRota) (maxL := 7) (ret := (some .boolean)) (by decide) rfl ?_
  intro p e s m args below meth c s₁ B hml hv
  obtain ⟨hargs, hP, hEL, hz⟩ := hv
  have hE := hEL.1
  subst hargs
  have hx := B.exec
  have hb := B.bytes
  have hr := B.returns
  have hts := atoms_spec (ws := wsL_isRota) B.pre
  have hown : s.vm.findClass RL = some m.cls := findClass_of_methodNamed B.named
  have hlocks := B.notSynchronized
  have hS : va_S (ft_AL sz) s.heap s.heap [] := va_S.rf
  have hg : G r := hJ.gr h0 (by omega) hq
  have hl := lv_entry ([.ref a]) (n := 7) (Nat.le_of_ble_eq_true rfl)
  rw [lg_entry_eq]
  generalize (lg_sl ([.ref a]) ++ List.replicate (7 - (lg_sl ([.ref a])).length) Slot.unset).toArray = ls at hl ⊢
  have hl : lv_has ls 7 [(0, .ref (a))] := hl
  refine lv_iconst (v := 0) hx hb dL_isRota_0 (by decide) ?_
  refine lv_istore_n (lv' := [(1, .int (0)), (0, .ref (a))]) hx hb dL_isRota_1 rfl hl (by decide) rfl (fun ls hl => ?_)
  refine lv_iconst (v := 1) hx hb dL_isRota_2 (by decide) ?_
  refine lv_istore_n (lv' := [(2, .int (1)), (1, .int (0)), (0, .ref (a))]) hx hb dL_isRota_3 rfl hl (by decide) rfl (fun ls hl => ?_)
  refine lv_iconst (v := 0) hx hb dL_isRota_4 (by decide) ?_
  refine lv_istore_n (lv' := [(3, .int (0)), (2, .int (1)), (1, .int (0)), (0, .ref (a))]) hx hb dL_isRota_5 rfl hl (by decide) rfl (fun ls hl => ?_)
  have loop_6 : ∀ (hKx : ∀ (y1_6 : Int32) (y3_6 : Int32) (σ6 : ft_Sg) (i_6 : Nat) (hi_6 : y3_6 = nI i_6) (hm_6 : i_6 ≤ tn 7) (hx_6 : i_6 = tn 7) (hj_6 : J (jc0 + 0) σ6) (hq_6 : σ6.1 0 = r) (hp_6 : ft_zm σ σ6 ∧ y1_6 = ft_mn r i_6) (H : Heap) (locs : List Loc) (hP : ft_LW D k Z sz a σ6 H) (hS : va_S (ft_AL sz) s.heap H locs) (ls : Array Slot) (hl : lv_has ls 7 [(0, .ref (a)), (1, .int (y1_6)), (2, .int (1)), (3, .int (y3_6))]), W p l e (headSpec wsL_isRota ({ frames := 10, cells := 476, slots := 7896, locals := 247 })).room s m ([.ref a] : List Value).toArray below meth c H locs (0 + 476) (0 + 7896) (MQ below (ft_QR J D k Z sz a (jc0 + 0) (fun z u => z = 1 ∧ ft_zm σ u)) ([.ref a] : List Value).toArray s 476 7896 (ft_AL sz)) (F0 m 162 ls [])) (n_6 : Nat), ∀ (y1_6 : Int32) (y3_6 : Int32) (σ6 : ft_Sg) (i_6 : Nat) (hi_6 : y3_6 = nI i_6) (hm_6 : i_6 ≤ tn 7) (hn_6 : tn 7 < n_6 + i_6) (hj_6 : J (jc0 + 0) σ6) (hq_6 : σ6.1 0 = r) (hp_6 : ft_zm σ σ6 ∧ y1_6 = ft_mn r i_6) (H : Heap) (locs : List Loc) (hP : ft_LW D k Z sz a σ6 H) (hS : va_S (ft_AL sz) s.heap H locs) (ls : Array Slot) (hl : lv_has ls 7 [(0, .ref (a)), (1, .int (y1_6)), (2, .int (1)), (3, .int (y3_6))]), W p l e (headSpec wsL_isRota ({ frames := 10, cells := 476, slots := 7896, locals := 247 })).room s m ([.ref a] : List Value).toArray below meth c H locs (0 + 68 * i_6) (0 + 1128 * i_6) (MQ below (ft_QR J D k Z sz a (jc0 + 0) (fun z u => z = 1 ∧ ft_zm σ u)) ([.ref a] : List Value).toArray s 476 7896 (ft_AL sz)) (F0 m 6 ls []) := by
    intro hKx n_6
    induction n_6 with
    | zero => intro y1_6 y3_6 σ6 i_6 hi_6 hm_6 hn_6; exact absurd hn_6 (by omega)
    | succ n ih_6 =>
      intro y1_6 y3_6 σ6 i_6 hi_6 hm_6 hn_6 hj_6 hq_6 hp_6 H locs hP hS ls hl
      have hm5_6 : i_6 ≤ 7 := hm_6
      refine lv_iload_n hx hb dL_isRota_6 rfl (lv_at hl 2 rfl) ?_
      refine lv_if_eq (tgt := 162) hx hb dL_isRota_7 (by decide) (fun c_7 => ?_) (fun c_7 => ?_)
      · skip
        first | exact absurd c_7 (by decide) | exact absurd (by decide) c_7
      · skip
        refine lv_iload_n hx hb dL_isRota_10 rfl (lv_at hl 3 rfl) ?_
        refine lv_bipush (v := 7) hx hb dL_isRota_11 (by decide) ?_
        refine lv_icmp_ge (tgt := 162) hx hb dL_isRota_13 (by decide) (fun c_13 => ?_) (fun c_13 => ?_)
        · skip
          refine W.widen (k := 0 + 476) (n := 0 + 7896) (by omega) (by omega) ?_
          exact hKx y1_6 y3_6 σ6 i_6 hi_6 hm_6 (ft_exi hi_6 hm_6 c_13) hj_6 hq_6 hp_6 _ _ hP hS ls (lv_sub hl [0, 1, 2, 3] rfl)
        · skip
          have hlt_6 := ft_step hi_6 hm_6 c_13
          have hl5_6 : i_6 + 1 ≤ 7 := hlt_6
          refine lv_aload_n hx hb dL_isRota_16 rfl (lv_at hl 0 rfl) ?_
          refine lv_iload_n hx hb dL_isRota_17 rfl (lv_at hl 3 rfl) ?_
          refine va_calli (va_runV (As := [.int (y3_6)]) (rest := []) ⟨hx, hb, hml, hown, hts⟩ (ft_noXs (z := 5) (cl_renderDay l hl0 D Z k sz a σ6 y3_6 (hJ.pm hj_6) (hJ.ok1 hj_6) (hJ.hH hj_6 (by omega) y3_6)) (hJ.rd1 hj_6 (by omega) _ (ft_nw hi_6 hl5_6))) (cwV 1 hts gL_isRota_X7_renderDay rfl rfl rfl (by decide +kernel) ⟨Nat.le_of_ble_eq_true rfl, Nat.le_of_ble_eq_true rfl⟩) (ft_preL hE hz hS hP) rfl rfl hl.1 rfl (lv_room (Nat.le_of_ble_eq_true rfl)) dL_isRota_18 ⟨(show 0 + 68 * i_6 + 6 ≤ 476 by omega), (show 0 + 1128 * i_6 + 756 ≤ 7896 by omega)⟩) hS (fun _ _ h => h) (fun _ h => h) (fun z u t H1 locs1 ht hvm hw hB hz1 hk1 hS1 => ?_)
          obtain ⟨rfl, rfl⟩ : z = 5 ∧ u = (l_renderDay σ6 y3_6).2 := ⟨congrArg Prod.fst hw, congrArg Prod.snd hw⟩
          rw [ht] at hB
          have hP := hB
          have hS := hS1
          clear hS1
          generalize H1 = H at hP hS ⊢
          refine W.widen (k := 6 + 68 * i_6) (n := 756 + 1128 * i_6) (by omega) (by omega) ?_
          have hJ_18_0 : J (jc0 + 0) (l_renderDay σ6 y3_6).2 := hJ.mono (hJ.k_renderDay _ hj_6 (by omega)) (by omega)
          have hq_18_1 : (l_renderDay σ6 y3_6).2.1 0 = r := (hJ.r_renderDay _).trans hq_6
          refine lv_iconst (v := 5) hx hb dL_isRota_21 (by decide) ?_
          refine lv_icmp_ne (tgt := 42) hx hb dL_isRota_22 (by decide) (fun c_22 => ?_) (fun c_22 => ?_)
          · skip
            first | exact absurd c_22 (by decide) | exact absurd (by decide) c_22
          · skip
            refine lv_aload_n hx hb dL_isRota_25 rfl (lv_at hl 0 rfl) ?_
            refine lv_iload_n hx hb dL_isRota_26 rfl (lv_at hl 3 rfl) ?_
            refine va_calli (vx_runSW (As := [.ref (a), .int (y3_6)]) (rest := []) ⟨hx, hb, hml, hown, hts⟩ (d_L_firstFreePitch l hl0 D Z k sz a ((l_renderDay σ6 y3_6).2) y3_6 (ex_firstFreePitch)) (vx_cwSW 2 hts gL_isRota_L_firstFreePitch rfl rfl rfl (by decide +kernel) ⟨Nat.le_of_ble_eq_true rfl, Nat.le_of_ble_eq_true rfl⟩) (ft_preM hEL hz hS hP) rfl rfl hl.1 rfl (lv_room (Nat.le_of_ble_eq_true rfl)) dL_isRota_27 ⟨(show 6 + 68 * i_6 + 2 ≤ 476 by omega), (show 756 + 1128 * i_6 + 12 ≤ 7896 by omega)⟩) hS (fun _ _ h => h) (fun _ h => h) (fun z u t H1 locs1 ht hvm hw hB hz1 hk1 hS1 => ?_)
            obtain rfl : z = w_firstFreePitch (ft_nr r) y3_6 := hw.trans (ft_ev (f := fun q9 => w_firstFreePitch (ft_nr q9) y3_6) hq_18_1 rfl)
            rw [ht] at hB
            have hP := hB
            have hS := hS1
            clear hS1
            generalize H1 = H at hP hS ⊢
            refine W.widen (k := 8 + 68 * i_6) (n := 768 + 1128 * i_6) (by omega) (by omega) ?_
            refine lv_aload_n hx hb dL_isRota_30 rfl (lv_at hl 0 rfl) ?_
            refine lv_iload_n hx hb dL_isRota_31 rfl (lv_at hl 3 rfl) ?_
            refine va_calli (va_runS (As := [.ref (a), .int (y3_6)]) (rest := [.int ((w_firstFreePitch (ft_nr r) y3_6))]) ⟨hx, hb, hml, hown, hts⟩ (c_L_freeOn l hl0 D Z k sz a ((l_renderDay σ6 y3_6).2) r hq_18_1 y3_6 ) (va_cwS 2 hts gL_isRota_L_freeOn rfl rfl rfl (by decide +kernel) ⟨Nat.le_of_ble_eq_true rfl, Nat.le_of_ble_eq_true rfl⟩) (ft_preM hEL hz hS hP) rfl rfl hl.1 rfl (lv_room (Nat.le_of_ble_eq_true rfl)) dL_isRota_32 ⟨(show 8 + 68 * i_6 + 15 ≤ 476 by omega), (show 768 + 1128 * i_6 + 90 ≤ 7896 by omega)⟩) hS (fun _ _ h => h) (fun _ h => h) (fun z u t H1 locs1 ht hvm hw hB hz1 hk1 hS1 => ?_)
            obtain rfl : z = (s_L_freeOn r y3_6) := hw
            rw [ht] at hB
            have hP := hB
            have hS := hS1
            clear hS1
            generalize H1 = H at hP hS ⊢
            refine W.widen (k := 23 + 68 * i_6) (n := 858 + 1128 * i_6) (by omega) (by omega) ?_
            refine lv_icmp_ne (tgt := 42) hx hb dL_isRota_35 (by decide) (fun c_35 => ?_) (fun c_35 => ?_)
            · skip
              exact absurd (hJ.b1 hg _ (ft_nw hi_6 hl5_6)) c_35
            · skip
              refine lv_iconst (v := 1) hx hb dL_isRota_38 (by decide) ?_
              refine lv_goto (tgt := 43) hx hb dL_isRota_39 (by decide) ?_
              refine lv_istore_n (lv' := [(2, .int (1)), (0, .ref (a)), (1, .int (y1_6)), (3, .int (y3_6))]) hx hb dL_isRota_43 rfl hl (by decide) rfl (fun ls hl => ?_)
              refine lv_iconst (v := 0) hx hb dL_isRota_44 (by decide) ?_
              refine lv_istore (lv' := [(4, .int (0)), (2, .int (1)), (0, .ref (a)), (1, .int (y1_6)), (3, .int (y3_6))]) hx hb dL_isRota_45 hl (by decide) rfl (fun ls hl => ?_)
              have loop_47 : ∀ (hKx : ∀ (y1_47 : Int32) (y4_47 : Int32) (i_47 : Nat) (hi_47 : y4_47 = nI i_47) (hm_47 : i_47 ≤ tn 5) (hx_47 : i_47 = tn 5) (hv_47 : y1_47 = ft_up (ft_mi r y3_6) y1_6 i_47) (H : Heap) (locs : List Loc) (hP : ft_LW D k Z sz a ((l_renderDay σ6 y3_6).2) H) (hS : va_S (ft_AL sz) s.heap H locs) (ls : Array Slot) (hl : lv_has ls 7 [(0, .ref (a)), (1, .int (y1_47)), (2, .int (1)), (3, .int (y3_6)), (4, .int (y4_47))]), W p l e (headSpec wsL_isRota ({ frames := 10, cells := 476, slots := 7896, locals := 247 })).room s m ([.ref a] : List Value).toArray below meth c H locs (23 + 68 * i_6 + 45) (858 + 1128 * i_6 + 270) (MQ below (ft_QR J D k Z sz a (jc0 + 0) (fun z u => z = 1 ∧ ft_zm σ u)) ([.ref a] : List Value).toArray s 476 7896 (ft_AL sz)) (F0 m 156 ls [])) (n_47 : Nat), ∀ (y1_47 : Int32) (y4_47 : Int32) (i_47 : Nat) (hi_47 : y4_47 = nI i_47) (hm_47 : i_47 ≤ tn 5) (hn_47 : tn 5 < n_47 + i_47) (hv_47 : y1_47 = ft_up (ft_mi r y3_6) y1_6 i_47) (H : Heap) (locs : List Loc) (hP : ft_LW D k Z sz a ((l_renderDay σ6 y3_6).2) H) (hS : va_S (ft_AL sz) s.heap H locs) (ls : Array Slot) (hl : lv_has ls 7 [(0, .ref (a)), (1, .int (y1_47)), (2, .int (1)), (3, .int (y3_6)), (4, .int (y4_47))]), W p l e (headSpec wsL_isRota ({ frames := 10, cells := 476, slots := 7896, locals := 247 })).room s m ([.ref a] : List Value).toArray below meth c H locs (23 + 68 * i_6 + 9 * i_47) (858 + 1128 * i_6 + 54 * i_47) (MQ below (ft_QR J D k Z sz a (jc0 + 0) (fun z u => z = 1 ∧ ft_zm σ u)) ([.ref a] : List Value).toArray s 476 7896 (ft_AL sz)) (F0 m 47 ls []) := by
                intro hKx n_47
                induction n_47 with
                | zero => intro y1_47 y4_47 i_47 hi_47 hm_47 hn_47; exact absurd hn_47 (by omega)
                | succ n ih_47 =>
                  intro y1_47 y4_47 i_47 hi_47 hm_47 hn_47 hv_47 H locs hP hS ls hl
                  have hm5_47 : i_47 ≤ 5 := hm_47
                  refine lv_iload_n hx hb dL_isRota_47 rfl (lv_at hl 2 rfl) ?_
                  refine lv_if_eq (tgt := 156) hx hb dL_isRota_48 (by decide) (fun c_48 => ?_) (fun c_48 => ?_)
                  · skip
                    first | exact absurd c_48 (by decide) | exact absurd (by decide) c_48
                  · skip
                    refine lv_iload hx hb dL_isRota_51 (lv_at hl 4 rfl) ?_
                    refine lv_iconst (v := 5) hx hb dL_isRota_53 (by decide) ?_
                    refine lv_icmp_ge (tgt := 156) hx hb dL_isRota_54 (by decide) (fun c_54 => ?_) (fun c_54 => ?_)
                    · skip
                      refine W.widen (k := 23 + 68 * i_6 + 45) (n := 858 + 1128 * i_6 + 270) (by omega) (by omega) ?_
                      exact hKx y1_47 y4_47 i_47 hi_47 hm_47 (ft_exi hi_47 hm_47 c_54) hv_47 _ _ hP hS ls (lv_sub hl [0, 1, 2, 3, 4] rfl)
                    · skip
                      have hlt_47 := ft_step hi_47 hm_47 c_54
                      have hl5_47 : i_47 + 1 ≤ 5 := hlt_47
                      refine lv_aload_n hx hb dL_isRota_57 rfl (lv_at hl 0 rfl) ?_
                      refine lv_iload hx hb dL_isRota_58 (lv_at hl 4 rfl) ?_
                      refine lv_iload_n hx hb dL_isRota_60 rfl (lv_at hl 3 rfl) ?_
                      refine va_calli (vx_runSW (As := [.ref (a), .int (y4_47), .int (y3_6)]) (rest := []) ⟨hx, hb, hml, hown, hts⟩ (d_L_truckAt l hl0 D Z k sz a ((l_renderDay σ6 y3_6).2) y4_47 y3_6 (ex_truckAt)) (vx_cwSW 3 hts gL_isRota_L_truckAt rfl rfl rfl (by decide +kernel) ⟨Nat.le_of_ble_eq_true rfl, Nat.le_of_ble_eq_true rfl⟩) (ft_preM hEL hz hS hP) rfl rfl hl.1 rfl (lv_room (Nat.le_of_ble_eq_true rfl)) dL_isRota_61 ⟨(show 23 + 68 * i_6 + 9 * i_47 + 3 ≤ 476 by omega), (show 858 + 1128 * i_6 + 54 * i_47 + 18 ≤ 7896 by omega)⟩) hS (fun _ _ h => h) (fun _ h => h) (fun z u t H1 locs1 ht hvm hw hB hz1 hk1 hS1 => ?_)
                      obtain rfl : z = w_truckAt (ft_nr r) y4_47 y3_6 := hw.trans (ft_ev (f := fun q9 => w_truckAt (ft_nr q9) y4_47 y3_6) hq_18_1 rfl)
                      rw [ht] at hB
                      have hP := hB
                      have hS := hS1
                      clear hS1
                      generalize H1 = H at hP hS ⊢
                      refine W.widen (k := 26 + 68 * i_6 + 9 * i_47) (n := 876 + 1128 * i_6 + 54 * i_47) (by omega) (by omega) ?_
                      refine lv_istore (lv' := [(5, .int ((w_truckAt (ft_nr r) y4_47 y3_6))), (0, .ref (a)), (1, .int (y1_47)), (2, .int (1)), (3, .int (y3_6)), (4, .int (y4_47))]) hx hb dL_isRota_64 hl (by decide) rfl (fun ls hl => ?_)
                      refine lv_iload_n hx hb dL_isRota_66 rfl (lv_at hl 2 rfl) ?_
                      refine lv_iload hx hb dL_isRota_67 (lv_at hl 0 rfl) ?_
                      refine lv_sipush (v := (-1000)) hx hb dL_isRota_69 (by decide) ?_
                      refine lv_icmp_ne (tgt := 79) hx hb dL_isRota_72 (by decide) (fun c_72 => ?_) (fun c_72 => ?_)
                      · skip
                        refine lv_iconst (v := 1) hx hb dL_isRota_79 (by decide) ?_
                        refine lv_iadd hx hb dL_isRota_80 ?_
                        refine lv_istore_n (lv' := [(1, .int (y1_47 + 1)), (5, .int ((w_truckAt (ft_nr r) y4_47 y3_6))), (0, .ref (a)), (2, .int (1)), (3, .int (y3_6)), (4, .int (y4_47))]) hx hb dL_isRota_81 rfl hl (by decide) rfl (fun ls hl => ?_)
                        refine lv_iload hx hb dL_isRota_82 (lv_at hl 1 rfl) ?_
                        refine lv_sipush (v := (-1000)) hx hb dL_isRota_84 (by decide) ?_
                        refine lv_icmp_ne (tgt := 95) hx hb dL_isRota_87 (by decide) (fun c_87 => ?_) (fun c_87 => ?_)
                        · skip
                          refine lv_bipush (v := 48) hx hb dL_isRota_95 (by decide) ?_
                          refine lv_iload hx hb dL_isRota_97 (lv_at hl 1 rfl) ?_
                          refine lv_iadd hx hb dL_isRota_99 ?_
                          refine lv_i2c (v := ((48 + (w_truckAt (ft_nr r) y4_47 y3_6)).toUInt32 % 65536).toInt32) hx hb dL_isRota_100 rfl ?_
                          refine lv_istore (lv' := [(6, .int (((48 + (w_truckAt (ft_nr r) y4_47 y3_6)).toUInt32 % 65536).toInt32)), (1, .int (y1_47 + 1)), (5, .int ((w_truckAt (ft_nr r) y4_47 y3_6))), (0, .ref (a)), (2, .int (1)), (3, .int (y3_6)), (4, .int (y4_47))]) hx hb dL_isRota_101 hl (by decide) rfl (fun ls hl => ?_)
                          refine lv_aload_n hx hb dL_isRota_103 rfl (lv_at hl 3 rfl) ?_
                          refine lv_iload hx hb dL_isRota_104 (lv_at hl 6 rfl) ?_
                          refine va_calli (va_runV (As := [.int (y4_47)]) (rest := []) ⟨hx, hb, hml, hown, hts⟩ (ft_noX (z := ft_sg r y4_47 y3_6) (cl_outputAt l hl0 D Z k sz a ((l_renderDay σ6 y3_6).2) y4_47 (ft_ok1c (hJ.ok1 hJ_18_0)).1 (ft_ok1c (hJ.ok1 hJ_18_0)).2) (hJ.oa hj_6 (by omega) hq_6 _ _ i_47 (ft_nw hi_6 hl5_6) hi_47 hl5_47)) (cwV 1 hts gL_isRota_X7_outputAt rfl rfl rfl (by decide +kernel) ⟨Nat.le_of_ble_eq_true rfl, Nat.le_of_ble_eq_true rfl⟩) (ft_preL hE hz hS hP) rfl rfl hl.1 rfl (lv_room (Nat.le_of_ble_eq_true rfl)) dL_isRota_106 ⟨(show 26 + 68 * i_6 + 9 * i_47 + 1 ≤ 476 by omega), (show 876 + 1128 * i_6 + 54 * i_47 + 6 ≤ 7896 by omega)⟩) hS (fun _ _ h => h) (fun _ h => h) (fun z u t H1 locs1 ht hvm hw hB hz1 hk1 hS1 => ?_)
                          obtain rfl : ft_sg r y4_47 y3_6 = z := Eq.symm hw
                          rw [ht] at hB
                          have hP := hB
                          have hS := hS1
                          clear hS1
                          generalize H1 = H at hP hS ⊢
                          refine W.widen (k := 27 + 68 * i_6 + 9 * i_47) (n := 882 + 1128 * i_6 + 54 * i_47) (by omega) (by omega) ?_
                          refine lv_iload hx hb dL_isRota_109 (lv_at hl 0 rfl) ?_
                          refine lv_icmp_ne (tgt := 148) hx hb dL_isRota_111 (by decide) (fun c_111 => ?_) (fun c_111 => ?_)
                          · skip
                            exact absurd (ft_sg_n c_72) c_111
                          · skip
                            refine lv_iload hx hb dL_isRota_114 (lv_at hl 2 rfl) ?_
                            refine lv_sipush (v := (-1000)) hx hb dL_isRota_116 (by decide) ?_
                            refine lv_icmp_eq (tgt := 144) hx hb dL_isRota_119 (by decide) (fun c_119 => ?_) (fun c_119 => ?_)
                            · skip
                              exact absurd c_119 (c_87)
                            · skip
                              refine lv_aload_n hx hb dL_isRota_122 rfl (lv_at hl 3 rfl) ?_
                              refine lv_iload hx hb dL_isRota_123 (lv_at hl 2 rfl) ?_
                              refine lv_iload_n hx hb dL_isRota_125 rfl (lv_at hl 5 rfl) ?_
                              refine va_calli (va_runV (As := [.int ((w_truckAt (ft_nr r) y4_47 y3_6)), .int (y3_6)]) (rest := []) ⟨hx, hb, hml, hown, hts⟩ (ft_noX (z := y4_47) (cl_pitchOf l hl0 D Z k sz a ((l_renderDay σ6 y3_6).2) (w_truckAt (ft_nr r) y4_47 y3_6) y3_6 ) (ft_ev (f := fun q9 => l_pitchOf (ft_nr q9) (w_truckAt (ft_nr r) y4_47 y3_6) y3_6) hq_18_1 (hJ.b2 hg _ _ i_47 (ft_nw hi_6 hl5_6) hi_47 hl5_47 c_72))) (cwV 2 hts gL_isRota_X7_pitchOf rfl rfl rfl (by decide +kernel) ⟨Nat.le_of_ble_eq_true rfl, Nat.le_of_ble_eq_true rfl⟩) (ft_preL hE hz hS hP) rfl rfl hl.1 rfl (lv_room (Nat.le_of_ble_eq_true rfl)) dL_isRota_126 ⟨(show 27 + 68 * i_6 + 9 * i_47 + 3 ≤ 476 by omega), (show 882 + 1128 * i_6 + 54 * i_47 + 18 ≤ 7896 by omega)⟩) hS (fun _ _ h => h) (fun _ h => h) (fun z u t H1 locs1 ht hvm hw hB hz1 hk1 hS1 => ?_)
                              obtain rfl : y4_47 = z := Eq.symm hw
                              rw [ht] at hB
                              have hP := hB
                              have hS := hS1
                              clear hS1
                              generalize H1 = H at hP hS ⊢
                              refine W.widen (k := 30 + 68 * i_6 + 9 * i_47) (n := 900 + 1128 * i_6 + 54 * i_47) (by omega) (by omega) ?_
                              refine lv_iload hx hb dL_isRota_129 (lv_at hl 6 rfl) ?_
                              refine lv_icmp_ne (tgt := 148) hx hb dL_isRota_131 (by decide) (fun c_131 => ?_) (fun c_131 => ?_)
                              · skip
                                exact absurd (rfl) c_131
                              · skip
                                refine lv_aload_n hx hb dL_isRota_134 rfl (lv_at hl 3 rfl) ?_
                                refine lv_iload hx hb dL_isRota_135 (lv_at hl 2 rfl) ?_
                                refine lv_iload_n hx hb dL_isRota_137 rfl (lv_at hl 5 rfl) ?_
                                refine va_calli (va_runV (As := [.int ((w_truckAt (ft_nr r) y4_47 y3_6)), .int (y3_6)]) (rest := []) ⟨hx, hb, hml, hown, hts⟩ (ft_noX (z := 1) (cl_hasPermit l hl0 D Z k sz a ((l_renderDay σ6 y3_6).2) (w_truckAt (ft_nr r) y4_47 y3_6) y3_6 ) (ft_ev (f := fun q9 => l_hasPermit (ft_nr q9) (w_truckAt (ft_nr r) y4_47 y3_6) y3_6) hq_18_1 (hJ.b3 hg _ _ i_47 (ft_nw hi_6 hl5_6) hi_47 hl5_47 c_72))) (cwV 2 hts gL_isRota_X7_hasPermit rfl rfl rfl (by decide +kernel) ⟨Nat.le_of_ble_eq_true rfl, Nat.le_of_ble_eq_true rfl⟩) (ft_preL hE hz hS hP) rfl rfl hl.1 rfl (lv_room (Nat.le_of_ble_eq_true rfl)) dL_isRota_138 ⟨(show 30 + 68 * i_6 + 9 * i_47 + 2 ≤ 476 by omega), (show 900 + 1128 * i_6 + 54 * i_47 + 12 ≤ 7896 by omega)⟩) hS (fun _ _ h => h) (fun _ h => h) (fun z u t H1 locs1 ht hvm hw hB hz1 hk1 hS1 => ?_)
                                obtain rfl : 1 = z := Eq.symm hw
                                rw [ht] at hB
                                have hP := hB
                                have hS := hS1
                                clear hS1
                                generalize H1 = H at hP hS ⊢
                                refine W.widen (k := 32 + 68 * i_6 + 9 * i_47) (n := 912 + 1128 * i_6 + 54 * i_47) (by omega) (by omega) ?_
                                refine lv_if_eq (tgt := 148) hx hb dL_isRota_141 (by decide) (fun c_141 => ?_) (fun c_141 => ?_)
                                · skip
                                  first | exact absurd c_141 (by decide) | exact absurd (by decide) c_141
                                · skip
                                  refine lv_iconst (v := 1) hx hb dL_isRota_144 (by decide) ?_
                                  refine lv_goto (tgt := 149) hx hb dL_isRota_145 (by decide) ?_
                                  refine lv_istore_n (lv' := [(2, .int (1)), (6, .int (((48 + (w_truckAt (ft_nr r) y4_47 y3_6)).toUInt32 % 65536).toInt32)), (1, .int (y1_47 + 1)), (5, .int ((w_truckAt (ft_nr r) y4_47 y3_6))), (0, .ref (a)), (3, .int (y3_6)), (4, .int (y4_47))]) hx hb dL_isRota_149 rfl hl (by decide) rfl (fun ls hl => ?_)
                                  refine lv_iinc (v := y4_47 + 1) (lv' := [(4, .int (y4_47 + 1)), (2, .int (1)), (6, .int (((48 + (w_truckAt (ft_nr r) y4_47 y3_6)).toUInt32 % 65536).toInt32)), (1, .int (y1_47 + 1)), (5, .int ((w_truckAt (ft_nr r) y4_47 y3_6))), (0, .ref (a)), (3, .int (y3_6))]) hx hb dL_isRota_150 hl (k := 6) rfl rfl (by decide) rfl (fun ls hl => ?_)
                                  refine lv_goto (tgt := 47) hx hb dL_isRota_153 (by decide) ?_
                                  refine W.widen (k := 23 + 68 * i_6 + 9 * (i_47 + 1)) (n := 858 + 1128 * i_6 + 54 * (i_47 + 1)) (by omega) (by omega) ?_
                                  exact ih_47 (y1_47 + 1) (y4_47 + 1) (i_47 + 1) (by rw [hi_47, nI_1]) hlt_47 (by omega) (by rw [hv_47]; show _ = ft_up (ft_mi r y3_6) y1_6 i_47 + ft_mi r y3_6 (nI i_47); rw [← hi_47, ft_mi_n c_72]) _ _ hP hS ls (lv_sub hl [5, 3, 1, 6, 0] rfl)
                        · skip
                          exact absurd c_87 (c_72)
                      · skip
                        refine lv_iconst (v := 0) hx hb dL_isRota_75 (by decide) ?_
                        refine lv_goto (tgt := 80) hx hb dL_isRota_76 (by decide) ?_
                        refine lv_iadd hx hb dL_isRota_80 ?_
                        refine lv_istore_n (lv' := [(1, .int (y1_47 + 0)), (5, .int ((w_truckAt (ft_nr r) y4_47 y3_6))), (0, .ref (a)), (2, .int (1)), (3, .int (y3_6)), (4, .int (y4_47))]) hx hb dL_isRota_81 rfl hl (by decide) rfl (fun ls hl => ?_)
                        refine lv_iload hx hb dL_isRota_82 (lv_at hl 1 rfl) ?_
                        refine lv_sipush (v := (-1000)) hx hb dL_isRota_84 (by decide) ?_
                        refine lv_icmp_ne (tgt := 95) hx hb dL_isRota_87 (by decide) (fun c_87 => ?_) (fun c_87 => ?_)
                        · skip
                          exact absurd (c_72) c_87
                        · skip
                          refine lv_bipush (v := 45) hx hb dL_isRota_90 (by decide) ?_
                          refine lv_goto (tgt := 101) hx hb dL_isRota_92 (by decide) ?_
                          refine lv_istore (lv' := [(6, .int (45)), (1, .int (y1_47 + 0)), (5, .int ((w_truckAt (ft_nr r) y4_47 y3_6))), (0, .ref (a)), (2, .int (1)), (3, .int (y3_6)), (4, .int (y4_47))]) hx hb dL_isRota_101 hl (by decide) rfl (fun ls hl => ?_)
                          refine lv_aload_n hx hb dL_isRota_103 rfl (lv_at hl 3 rfl) ?_
                          refine lv_iload hx hb dL_isRota_104 (lv_at hl 6 rfl) ?_
                          refine va_calli (va_runV (As := [.int (y4_47)]) (rest := []) ⟨hx, hb, hml, hown, hts⟩ (ft_noX (z := ft_sg r y4_47 y3_6) (cl_outputAt l hl0 D Z k sz a ((l_renderDay σ6 y3_6).2) y4_47 (ft_ok1c (hJ.ok1 hJ_18_0)).1 (ft_ok1c (hJ.ok1 hJ_18_0)).2) (hJ.oa hj_6 (by omega) hq_6 _ _ i_47 (ft_nw hi_6 hl5_6) hi_47 hl5_47)) (cwV 1 hts gL_isRota_X7_outputAt rfl rfl rfl (by decide +kernel) ⟨Nat.le_of_ble_eq_true rfl, Nat.le_of_ble_eq_true rfl⟩) (ft_preL hE hz hS hP) rfl rfl hl.1 rfl (lv_room (Nat.le_of_ble_eq_true rfl)) dL_isRota_106 ⟨(show 26 + 68 * i_6 + 9 * i_47 + 1 ≤ 476 by omega), (show 876 + 1128 * i_6 + 54 * i_47 + 6 ≤ 7896 by omega)⟩) hS (fun _ _ h => h) (fun _ h => h) (fun z u t H1 locs1 ht hvm hw hB hz1 hk1 hS1 => ?_)
                          obtain rfl : ft_sg r y4_47 y3_6 = z := Eq.symm hw
                          rw [ht] at hB
                          have hP := hB
                          have hS := hS1
                          clear hS1
                          generalize H1 = H at hP hS ⊢
                          refine W.widen (k := 27 + 68 * i_6 + 9 * i_47) (n := 882 + 1128 * i_6 + 54 * i_47) (by omega) (by omega) ?_
                          refine lv_iload hx hb dL_isRota_109 (lv_at hl 0 rfl) ?_
                          refine lv_icmp_ne (tgt := 148) hx hb dL_isRota_111 (by decide) (fun c_111 => ?_) (fun c_111 => ?_)
                          · skip
                            exact absurd (ft_sg_p c_72) c_111
                          · skip
                            refine lv_iload hx hb dL_isRota_114 (lv_at hl 2 rfl) ?_
                            refine lv_sipush (v := (-1000)) hx hb dL_isRota_116 (by decide) ?_
                            refine lv_icmp_eq (tgt := 144) hx hb dL_isRota_119 (by decide) (fun c_119 => ?_) (fun c_119 => ?_)
                            · skip
                              refine lv_iconst (v := 1) hx hb dL_isRota_144 (by decide) ?_
                              refine lv_goto (tgt := 149) hx hb dL_isRota_145 (by decide) ?_
                              refine lv_istore_n (lv' := [(2, .int (1)), (6, .int (45)), (1, .int (y1_47 + 0)), (5, .int ((w_truckAt (ft_nr r) y4_47 y3_6))), (0, .ref (a)), (3, .int (y3_6)), (4, .int (y4_47))]) hx hb dL_isRota_149 rfl hl (by decide) rfl (fun ls hl => ?_)
                              refine lv_iinc (v := y4_47 + 1) (lv' := [(4, .int (y4_47 + 1)), (2, .int (1)), (6, .int (45)), (1, .int (y1_47 + 0)), (5, .int ((w_truckAt (ft_nr r) y4_47 y3_6))), (0, .ref (a)), (3, .int (y3_6))]) hx hb dL_isRota_150 hl (k := 6) rfl rfl (by decide) rfl (fun ls hl => ?_)
                              refine lv_goto (tgt := 47) hx hb dL_isRota_153 (by decide) ?_
                              refine W.widen (k := 23 + 68 * i_6 + 9 * (i_47 + 1)) (n := 858 + 1128 * i_6 + 54 * (i_47 + 1)) (by omega) (by omega) ?_
                              exact ih_47 (y1_47 + 0) (y4_47 + 1) (i_47 + 1) (by rw [hi_47, nI_1]) hlt_47 (by omega) (by rw [hv_47]; show _ = ft_up (ft_mi r y3_6) y1_6 i_47 + ft_mi r y3_6 (nI i_47); rw [← hi_47, ft_mi_p c_72]) _ _ hP hS ls (lv_sub hl [5, 3, 1, 6, 0] rfl)
                            · skip
                              exact absurd (c_87) c_119
              refine W.widen (k := 23 + 68 * i_6 + 9 * 0) (n := 858 + 1128 * i_6 + 54 * 0) (by omega) (by omega) ?_
              refine loop_47 (fun y1_47 y4_47 i_47 hi_47 hm_47 hx_47 hv_47 H locs hP hS ls hl => ?_) (tn 5 + 1) y1_6 0 0 rfl (Nat.zero_le _) (by omega) (rfl) _ _ hP hS ls (lv_sub hl [2, 3, 1, 4, 0] rfl)
              have hm5_47 : i_47 ≤ 5 := hm_47
              refine W.widen (k := 68 + 68 * i_6) (n := 1128 + 1128 * i_6) (by omega) (by omega) ?_
              refine lv_iinc (v := y3_6 + 1) (lv' := [(3, .int (y3_6 + 1)), (0, .ref (a)), (1, .int (y1_47)), (2, .int (1)), (4, .int (y4_47))]) hx hb dL_isRota_156 hl (k := 3) rfl rfl (by decide) rfl (fun ls hl => ?_)
              refine lv_goto (tgt := 6) hx hb dL_isRota_159 (by decide) ?_
              refine W.widen (k := 0 + 68 * (i_6 + 1)) (n := 0 + 1128 * (i_6 + 1)) (by omega) (by omega) ?_
              exact ih_6 y1_47 (y3_6 + 1) ((l_renderDay σ6 y3_6).2) (i_6 + 1) (by rw [hi_6, nI_1]) hlt_6 (by omega) (show J (jc0 + 0) ((l_renderDay σ6 y3_6).2) from hJ.mono hJ_18_0 (by omega)) hq_18_1 (⟨hp_6.1.tr (hJ.sm_renderDay _), by rw [hv_47, hx_47, hp_6.2, hi_6]; rfl⟩) _ _ hP hS ls (lv_sub hl [1, 2, 3, 0] rfl)
  refine W.widen (k := 0 + 68 * 0) (n := 0 + 1128 * 0) (by omega) (by omega) ?_
  refine loop_6 (fun y1_6 y3_6 σ6 i_6 hi_6 hm_6 hx_6 hj_6 hq_6 hp_6 H locs hP hS ls hl => ?_) (tn 7 + 1) 0 0 σ 0 rfl (Nat.zero_le _) (by omega) (show J (jc0 + 0) σ from hJ.mono h0 (by omega)) hq (⟨ft_zm.rf, rfl⟩) _ _ hP hS ls (lv_sub hl [3, 2, 1, 0] rfl)
  have hm5_6 : i_6 ≤ 7 := hm_6
  refine W.widen (k := 476) (n := 7896) (by omega) (by omega) ?_
  refine lv_iload_n hx hb dL_isRota_162 rfl (lv_at hl 2 rfl) ?_
  refine lv_if_eq (tgt := 193) hx hb dL_isRota_163 (by decide) (fun c_163 => ?_) (fun c_163 => ?_)
  · skip
    first | exact absurd c_163 (by decide) | exact absurd (by decide) c_163
  · skip
    refine lv_aload_n hx hb dL_isRota_166 rfl (lv_at hl 0 rfl) ?_
    refine vp_callSi (va_Run.run (va_runV (As := []) (rest := []) ⟨hx, hb, hml, hown, hts⟩ (cl_assignments l D Z k sz a σ6) (cwV 0 hts gL_isRota_X7_assignments rfl rfl rfl (by decide +kernel) ⟨Nat.le_of_ble_eq_true rfl, Nat.le_of_ble_eq_true rfl⟩) (ft_preL hE hz hS hP) rfl rfl hl.1 rfl (lv_room (Nat.le_of_ble_eq_true rfl)) dL_isRota_167 ⟨Nat.le_of_ble_eq_true rfl, Nat.le_of_ble_eq_true rfl⟩)) (fun z hz9 => ?_)
    replace hz9 : z = l_assignments (ft_nr r) := hz9.trans (ft_ev (f := fun q9 => l_assignments (ft_nr q9)) hq_6 rfl)
    subst hz9
    refine lv_iload_n hx hb dL_isRota_170 rfl (lv_at hl 1 rfl) ?_
    refine lv_icmp_ne (tgt := 193) hx hb dL_isRota_171 (by decide) (fun c_171 => ?_) (fun c_171 => ?_)
    · skip
      exact absurd ((hJ.b4 hg).trans (by rw [hp_6.2, hx_6]; rfl)) c_171
    · skip
      refine lv_aload_n hx hb dL_isRota_174 rfl (lv_at hl 0 rfl) ?_
      refine vp_callSi (va_Run.run (va_runV (As := []) (rest := []) ⟨hx, hb, hml, hown, hts⟩ (cl_assignmentsByTrucks l D Z k sz a σ6) (cwV 0 hts gL_isRota_X7_assignmentsByTrucks rfl rfl rfl (by decide +kernel) ⟨Nat.le_of_ble_eq_true rfl, Nat.le_of_ble_eq_true rfl⟩) (ft_preL hE hz hS hP) rfl rfl hl.1 rfl (lv_room (Nat.le_of_ble_eq_true rfl)) dL_isRota_175 ⟨Nat.le_of_ble_eq_true rfl, Nat.le_of_ble_eq_true rfl⟩)) (fun z hz9 => ?_)
      replace hz9 : z = l_assignmentsByTrucks (ft_nr r) := hz9.trans (ft_ev (f := fun q9 => l_assignmentsByTrucks (ft_nr q9)) hq_6 rfl)
      subst hz9
      refine lv_iload_n hx hb dL_isRota_178 rfl (lv_at hl 1 rfl) ?_
      refine lv_icmp_ne (tgt := 193) hx hb dL_isRota_179 (by decide) (fun c_179 => ?_) (fun c_179 => ?_)
      · skip
        exact absurd ((hJ.b5 hg).trans (by rw [hp_6.2, hx_6]; rfl)) c_179
      · skip
        refine lv_aload_n hx hb dL_isRota_182 rfl (lv_at hl 0 rfl) ?_
        refine vp_callSi (va_Run.run (va_runV (As := []) (rest := []) ⟨hx, hb, hml, hown, hts⟩ (cl_isConsistent l D Z k sz a σ6) (cwV 0 hts gL_isRota_X7_isConsistent rfl rfl rfl (by decide +kernel) ⟨Nat.le_of_ble_eq_true rfl, Nat.le_of_ble_eq_true rfl⟩) (ft_preL hE hz hS hP) rfl rfl hl.1 rfl (lv_room (Nat.le_of_ble_eq_true rfl)) dL_isRota_183 ⟨Nat.le_of_ble_eq_true rfl, Nat.le_of_ble_eq_true rfl⟩)) (fun z hz9 => ?_)
        replace hz9 : z = 1 := hz9.trans ((ft_ev (f := fun q9 => l_isConsistent (ft_nr q9)) hq_6 rfl).trans (hJ.b6 hg))
        subst hz9
        refine lv_if_eq (tgt := 193) hx hb dL_isRota_186 (by decide) (fun c_186 => ?_) (fun c_186 => ?_)
        · skip
          first | exact absurd c_186 (by decide) | exact absurd (by decide) c_186
        · skip
          refine lv_iconst (v := 1) hx hb dL_isRota_189 (by decide) ?_
          refine lv_goto (tgt := 194) hx hb dL_isRota_190 (by decide) ?_
          refine W.widen (k := 476) (n := 7896) (by omega) (by omega) ?_
          exact W.zret (v := 1) hx hb hr (rfl) (fun t ht hW => ⟨⟨1, σ6, rfl, ⟨⟨rfl, hp_6.1⟩, hJ.mono hj_6 (by omega)⟩, by show ft_LW D k Z sz a _ t.heap; rw [ht]; exact hP⟩, hS.F ht⟩) hS.2.2 dL_isRota_194

set_option maxHeartbeats 4000000 in
set_option maxRecDepth 100000 in
theorem c_L_areRanked (l : Launch) (hl0 : l.stackTraces = false) (D : va_G) (Z : Nat → Nat → Nat) (k : Nat → ClassId) (sz : ft_SZ) (a : Nat) (σ : ft_Sg) (J : Nat → ft_Sg → Prop) (G : (Nat → Int32) → Prop) (T : Nat → Nat → ft_Sg → Prop) (hJ : ft_JJ J G T) (jc0 : Nat) (h0 : J jc0 σ) (hc : jc0 + 0 ≤ 1000) (r : Nat → Int32) (hq : σ.1 0 = r) : Met l yL_areRanked wsL_areRanked ({ frames := 9, cells := 120, slots := 720, locals := 174 }) (ft_PM D k Z sz a σ [.ref a]) (ft_QR J D k Z sz a (jc0 + 0) (fun z u => z = 1 ∧ ft_zm σ u)) 120 720 (ft_AL sz) := by
  refine Met.ofW (cc := cL_areRanked) (maxL := 7) (ret := (some .boolean)) (by decide) rfl ?_
  intro p e s m args below meth c s₁ B hml hv
  obtain ⟨hargs, hP, hEL, hz⟩ := hv
  have hE := hEL.1
  subst hargs
  have hx := B.exec
  have hb := B.bytes
  have hr := B.returns
  have hts := atoms_spec (ws := wsL_areRanked) B.pre
  have hown : s.vm.findClass RL = some m.cls := findClass_of_methodNamed B.named
  have hlocks := B.notSynchronized
  have hS : va_S (ft_AL sz) s.heap s.heap [] := va_S.rf
  have hg : G r := hJ.gr h0 (by omega) hq
  have hl := lv_entry ([.ref a]) (n := 7) (Nat.le_of_ble_eq_true rfl)
  rw [lg_entry_eq]
  generalize (lg_sl ([.ref a]) ++ List.replicate (7 - (lg_sl ([.ref a])).length) Slot.unset).toArray = ls at hl ⊢
  have hl : lv_has ls 7 [(0, .ref (a))] := hl
  refine lv_iconst (v := 1) hx hb dL_areRanked_0 (by decide) ?_
  refine lv_istore_n (lv' := [(1, .int (1)), (0, .ref (a))]) hx hb dL_areRanked_1 rfl hl (by decide) rfl (fun ls hl => ?_)
  refine lv_iconst (v := 1) hx hb dL_areRanked_2 (by decide) ?_
  refine lv_istore_n (lv' := [(2, .int (1)), (1, .int (1)), (0, .ref (a))]) hx hb dL_areRanked_3 rfl hl (by decide) rfl (fun ls hl => ?_)
  have loop_4 : ∀ (hKx : ∀ (y2_4 : Int32) (i_4 : Nat) (hi_4 : y2_4 = nI i_4) (hm_4 : i_4 ≤ tn 6) (hv_4 : 1 ≤ i_4) (H : Heap) (locs : List Loc) (hP : ft_LW D k Z sz a σ H) (hS : va_S (ft_AL sz) s.heap H locs) (ls : Array Slot) (hl : lv_has ls 7 [(0, .ref (a)), (1, .int (1)), (2, .int (y2_4))]), W p l e (headSpec wsL_areRanked ({ frames := 9, cells := 120, slots := 720, locals := 174 })).room s m ([.ref a] : List Value).toArray below meth c H locs (0 + 120) (0 + 720) (MQ below (ft_QR J D k Z sz a (jc0 + 0) (fun z u => z = 1 ∧ ft_zm σ u)) ([.ref a] : List Value).toArray s 120 720 (ft_AL sz)) (F0 m 97 ls [])) (n_4 : Nat), ∀ (y2_4 : Int32) (i_4 : Nat) (hi_4 : y2_4 = nI i_4) (hm_4 : i_4 ≤ tn 6) (hn_4 : tn 6 < n_4 + i_4) (hv_4 : 1 ≤ i_4) (H : Heap) (locs : List Loc) (hP : ft_LW D k Z sz a σ H) (hS : va_S (ft_AL sz) s.heap H locs) (ls : Array Slot) (hl : lv_has ls 7 [(0, .ref (a)), (1, .int (1)), (2, .int (y2_4))]), W p l e (headSpec wsL_areRanked ({ frames := 9, cells := 120, slots := 720, locals := 174 })).room s m ([.ref a] : List Value).toArray below meth c H locs (0 + 20 * i_4) (0 + 120 * i_4) (MQ below (ft_QR J D k Z sz a (jc0 + 0) (fun z u => z = 1 ∧ ft_zm σ u)) ([.ref a] : List Value).toArray s 120 720 (ft_AL sz)) (F0 m 4 ls []) := by
    intro hKx n_4
    induction n_4 with
    | zero => intro y2_4 i_4 hi_4 hm_4 hn_4; exact absurd hn_4 (by omega)
    | succ n ih_4 =>
      intro y2_4 i_4 hi_4 hm_4 hn_4 hv_4 H locs hP hS ls hl
      have hm5_4 : i_4 ≤ 6 := hm_4
      refine lv_iload_n hx hb dL_areRanked_4 rfl (lv_at hl 1 rfl) ?_
      refine lv_if_eq (tgt := 97) hx hb dL_areRanked_5 (by decide) (fun c_5 => ?_) (fun c_5 => ?_)
      · skip
        first | exact absurd c_5 (by decide) | exact absurd (by decide) c_5
      · skip
        refine lv_iload_n hx hb dL_areRanked_8 rfl (lv_at hl 2 rfl) ?_
        refine lv_aload_n hx hb dL_areRanked_9 rfl (lv_at hl 0 rfl) ?_
        refine vp_callSi (va_Run.run (va_runV (As := []) (rest := [.int (y2_4)]) ⟨hx, hb, hml, hown, hts⟩ (cl_truckCount l D Z k sz a σ) (cwV 0 hts gL_areRanked_X7_truckCount rfl rfl rfl (by decide +kernel) ⟨Nat.le_of_ble_eq_true rfl, Nat.le_of_ble_eq_true rfl⟩) (ft_preL hE hz hS hP) rfl rfl hl.1 rfl (lv_room (Nat.le_of_ble_eq_true rfl)) dL_areRanked_10 ⟨(show 0 + 20 * i_4 + 0 ≤ 120 by omega), (show 0 + 120 * i_4 + 0 ≤ 720 by omega)⟩)) (fun z hz9 => ?_)
        replace hz9 : z = l_truckCount (ft_nr r) := hz9.trans (ft_ev (f := fun q9 => l_truckCount (ft_nr q9)) hq rfl)
        subst hz9
        refine lv_icmp_ge (tgt := 97) hx hb dL_areRanked_13 (by decide) (fun c_13 => ?_) (fun c_13 => ?_)
        · skip
          refine W.widen (k := 0 + 120) (n := 0 + 720) (by omega) (by omega) ?_
          exact hKx y2_4 i_4 hi_4 hm_4 hv_4 _ _ hP hS ls (lv_sub hl [0, 1, 2] rfl)
        · skip
          have hs_4 := ft_step6 hi_4 hm_4 c_13 (hJ.dN hg)
          have hlt_4 := hs_4.2
          have hl5_4 : i_4 + 1 ≤ 6 := hlt_4
          refine lv_aload_n hx hb dL_areRanked_16 rfl (lv_at hl 0 rfl) ?_
          refine lv_iload_n hx hb dL_areRanked_17 rfl (lv_at hl 2 rfl) ?_
          refine lv_iconst (v := 1) hx hb dL_areRanked_18 (by decide) ?_
          refine lv_isub hx hb dL_areRanked_19 ?_
          refine va_calli (vx_runSW (As := [.ref (a), .int (y2_4 - 1)]) (rest := []) ⟨hx, hb, hml, hown, hts⟩ (d_L_truckByCoins l hl0 D Z k sz a σ (y2_4 - 1) (ex_truckByCoins)) (vx_cwSW 2 hts gL_areRanked_L_truckByCoins rfl rfl rfl (by decide +kernel) ⟨Nat.le_of_ble_eq_true rfl, Nat.le_of_ble_eq_true rfl⟩) (ft_preM hEL hz hS hP) rfl rfl hl.1 rfl (lv_room (Nat.le_of_ble_eq_true rfl)) dL_areRanked_20 ⟨(show 0 + 20 * i_4 + 1 ≤ 120 by omega), (show 0 + 120 * i_4 + 6 ≤ 720 by omega)⟩) hS (fun _ _ h => h) (fun _ h => h) (fun z u t H1 locs1 ht hvm hw hB hz1 hk1 hS1 => ?_)
          obtain rfl : z = w_truckByCoins (ft_nr r) (y2_4 - 1) := hw.trans (ft_ev (f := fun q9 => w_truckByCoins (ft_nr q9) (y2_4 - 1)) hq rfl)
          rw [ht] at hB
          have hP := hB
          have hS := hS1
          clear hS1
          generalize H1 = H at hP hS ⊢
          refine W.widen (k := 1 + 20 * i_4) (n := 6 + 120 * i_4) (by omega) (by omega) ?_
          refine lv_istore_n (lv' := [(3, .int ((w_truckByCoins (ft_nr r) (y2_4 - 1)))), (0, .ref (a)), (1, .int (1)), (2, .int (y2_4))]) hx hb dL_areRanked_23 rfl hl (by decide) rfl (fun ls hl => ?_)
          refine lv_aload_n hx hb dL_areRanked_24 rfl (lv_at hl 1 rfl) ?_
          refine lv_iload_n hx hb dL_areRanked_25 rfl (lv_at hl 3 rfl) ?_
          refine va_calli (vx_runSW (As := [.ref (a), .int (y2_4)]) (rest := []) ⟨hx, hb, hml, hown, hts⟩ (d_L_truckByCoins l hl0 D Z k sz a σ y2_4 (ex_truckByCoins)) (vx_cwSW 2 hts gL_areRanked_L_truckByCoins rfl rfl rfl (by decide +kernel) ⟨Nat.le_of_ble_eq_true rfl, Nat.le_of_ble_eq_true rfl⟩) (ft_preM hEL hz hS hP) rfl rfl hl.1 rfl (lv_room (Nat.le_of_ble_eq_true rfl)) dL_areRanked_26 ⟨(show 1 + 20 * i_4 + 1 ≤ 120 by omega), (show 6 + 120 * i_4 + 6 ≤ 720 by omega)⟩) hS (fun _ _ h => h) (fun _ h => h) (fun z u t H1 locs1 ht hvm hw hB hz1 hk1 hS1 => ?_)
          obtain rfl : z = w_truckByCoins (ft_nr r) y2_4 := hw.trans (ft_ev (f := fun q9 => w_truckByCoins (ft_nr q9) y2_4) hq rfl)
          rw [ht] at hB
          have hP := hB
          have hS := hS1
          clear hS1
          generalize H1 = H at hP hS ⊢
          refine W.widen (k := 2 + 20 * i_4) (n := 12 + 120 * i_4) (by omega) (by omega) ?_
          refine lv_istore (lv' := [(4, .int ((w_truckByCoins (ft_nr r) y2_4))), (3, .int ((w_truckByCoins (ft_nr r) (y2_4 - 1)))), (0, .ref (a)), (1, .int (1)), (2, .int (y2_4))]) hx hb dL_areRanked_29 hl (by decide) rfl (fun ls hl => ?_)
          refine lv_aload_n hx hb dL_areRanked_31 rfl (lv_at hl 2 rfl) ?_
          refine lv_iload_n hx hb dL_areRanked_32 rfl (lv_at hl 1 rfl) ?_
          refine va_calli (va_runV (As := [.int ((w_truckByCoins (ft_nr r) (y2_4 - 1)))]) (rest := []) ⟨hx, hb, hml, hown, hts⟩ (ft_noX (z := p_coins (ft_nr r) (w_truckByCoins (ft_nr r) (y2_4 - 1))) (cl_coins l hl0 D Z k sz a σ (w_truckByCoins (ft_nr r) (y2_4 - 1)) ) (ft_ev (f := fun q9 => l_coins (ft_nr q9) (w_truckByCoins (ft_nr r) (y2_4 - 1))) hq (ok_coins (hJ.c1 hg _ (i_4 - 1) (ft_pred hi_4 hv_4) (by have := hs_4.1; omega))))) (cwV 1 hts gL_areRanked_X7_coins rfl rfl rfl (by decide +kernel) ⟨Nat.le_of_ble_eq_true rfl, Nat.le_of_ble_eq_true rfl⟩) (ft_preL hE hz hS hP) rfl rfl hl.1 rfl (lv_room (Nat.le_of_ble_eq_true rfl)) dL_areRanked_33 ⟨(show 2 + 20 * i_4 + 1 ≤ 120 by omega), (show 12 + 120 * i_4 + 6 ≤ 720 by omega)⟩) hS (fun _ _ h => h) (fun _ h => h) (fun z u t H1 locs1 ht hvm hw hB hz1 hk1 hS1 => ?_)
          obtain rfl : p_coins (ft_nr r) (w_truckByCoins (ft_nr r) (y2_4 - 1)) = z := Eq.symm hw
          rw [ht] at hB
          have hP := hB
          have hS := hS1
          clear hS1
          generalize H1 = H at hP hS ⊢
          refine W.widen (k := 3 + 20 * i_4) (n := 18 + 120 * i_4) (by omega) (by omega) ?_
          refine lv_aload_n hx hb dL_areRanked_36 rfl (lv_at hl 2 rfl) ?_
          refine lv_iload hx hb dL_areRanked_37 (lv_at hl 0 rfl) ?_
          refine va_calli (va_runV (As := [.int ((w_truckByCoins (ft_nr r) y2_4))]) (rest := [.int ((p_coins (ft_nr r) (w_truckByCoins (ft_nr r) (y2_4 - 1))))]) ⟨hx, hb, hml, hown, hts⟩ (ft_noX (z := p_coins (ft_nr r) (w_truckByCoins (ft_nr r) y2_4)) (cl_coins l hl0 D Z k sz a σ (w_truckByCoins (ft_nr r) y2_4) ) (ft_ev (f := fun q9 => l_coins (ft_nr q9) (w_truckByCoins (ft_nr r) y2_4)) hq (ok_coins (hJ.c1 hg _ i_4 hi_4 hs_4.1)))) (cwV 1 hts gL_areRanked_X7_coins rfl rfl rfl (by decide +kernel) ⟨Nat.le_of_ble_eq_true rfl, Nat.le_of_ble_eq_true rfl⟩) (ft_preL hE hz hS hP) rfl rfl hl.1 rfl (lv_room (Nat.le_of_ble_eq_true rfl)) dL_areRanked_39 ⟨(show 3 + 20 * i_4 + 1 ≤ 120 by omega), (show 18 + 120 * i_4 + 6 ≤ 720 by omega)⟩) hS (fun _ _ h => h) (fun _ h => h) (fun z u t H1 locs1 ht hvm hw hB hz1 hk1 hS1 => ?_)
          obtain rfl : p_coins (ft_nr r) (w_truckByCoins (ft_nr r) y2_4) = z := Eq.symm hw
          rw [ht] at hB
          have hP := hB
          have hS := hS1
          clear hS1
          generalize H1 = H at hP hS ⊢
          refine W.widen (k := 4 + 20 * i_4) (n := 24 + 120 * i_4) (by omega) (by omega) ?_
          refine lv_isub hx hb dL_areRanked_42 ?_
          refine lv_istore (lv' := [(5, .int ((p_coins (ft_nr r) (w_truckByCoins (ft_nr r) (y2_4 - 1))) - (p_coins (ft_nr r) (w_truckByCoins (ft_nr r) y2_4)))), (4, .int ((w_truckByCoins (ft_nr r) y2_4))), (3, .int ((w_truckByCoins (ft_nr r) (y2_4 - 1)))), (0, .ref (a)), (1, .int (1)), (2, .int (y2_4))]) hx hb dL_areRanked_43 hl (by decide) rfl (fun ls hl => ?_)
          refine lv_aload_n hx hb dL_areRanked_45 rfl (lv_at hl 3 rfl) ?_
          refine lv_iload_n hx hb dL_areRanked_46 rfl (lv_at hl 2 rfl) ?_
          refine va_calli (va_runS (As := [.ref (a), .int ((w_truckByCoins (ft_nr r) (y2_4 - 1)))]) (rest := []) ⟨hx, hb, hml, hown, hts⟩ (c_L_stocks l hl0 D Z k sz a σ r hq (w_truckByCoins (ft_nr r) (y2_4 - 1)) (hJ.c1 hg _ (i_4 - 1) (ft_pred hi_4 hv_4) (by have := hs_4.1; omega))) (va_cwS 2 hts gL_areRanked_L_stocks rfl rfl rfl (by decide +kernel) ⟨Nat.le_of_ble_eq_true rfl, Nat.le_of_ble_eq_true rfl⟩) (ft_preM hEL hz hS hP) rfl rfl hl.1 rfl (lv_room (Nat.le_of_ble_eq_true rfl)) dL_areRanked_47 ⟨(show 4 + 20 * i_4 + 8 ≤ 120 by omega), (show 24 + 120 * i_4 + 48 ≤ 720 by omega)⟩) hS (fun _ _ h => h) (fun _ h => h) (fun z u t H1 locs1 ht hvm hw hB hz1 hk1 hS1 => ?_)
          obtain rfl : z = (s_L_stocks r (w_truckByCoins (ft_nr r) (y2_4 - 1))) := hw
          rw [ht] at hB
          have hP := hB
          have hS := hS1
          clear hS1
          generalize H1 = H at hP hS ⊢
          refine W.widen (k := 12 + 20 * i_4) (n := 72 + 120 * i_4) (by omega) (by omega) ?_
          refine lv_aload_n hx hb dL_areRanked_50 rfl (lv_at hl 3 rfl) ?_
          refine lv_iload hx hb dL_areRanked_51 (lv_at hl 1 rfl) ?_
          refine va_calli (va_runS (As := [.ref (a), .int ((w_truckByCoins (ft_nr r) y2_4))]) (rest := [.int ((s_L_stocks r (w_truckByCoins (ft_nr r) (y2_4 - 1))))]) ⟨hx, hb, hml, hown, hts⟩ (c_L_stocks l hl0 D Z k sz a σ r hq (w_truckByCoins (ft_nr r) y2_4) (hJ.c1 hg _ i_4 hi_4 hs_4.1)) (va_cwS 2 hts gL_areRanked_L_stocks rfl rfl rfl (by decide +kernel) ⟨Nat.le_of_ble_eq_true rfl, Nat.le_of_ble_eq_true rfl⟩) (ft_preM hEL hz hS hP) rfl rfl hl.1 rfl (lv_room (Nat.le_of_ble_eq_true rfl)) dL_areRanked_53 ⟨(show 12 + 20 * i_4 + 8 ≤ 120 by omega), (show 72 + 120 * i_4 + 48 ≤ 720 by omega)⟩) hS (fun _ _ h => h) (fun _ h => h) (fun z u t H1 locs1 ht hvm hw hB hz1 hk1 hS1 => ?_)
          obtain rfl : z = (s_L_stocks r (w_truckByCoins (ft_nr r) y2_4)) := hw
          rw [ht] at hB
          have hP := hB
          have hS := hS1
          clear hS1
          generalize H1 = H at hP hS ⊢
          refine W.widen (k := 20 + 20 * i_4) (n := 120 + 120 * i_4) (by omega) (by omega) ?_
          refine lv_isub hx hb dL_areRanked_56 ?_
          refine lv_istore (lv' := [(6, .int ((s_L_stocks r (w_truckByCoins (ft_nr r) (y2_4 - 1))) - (s_L_stocks r (w_truckByCoins (ft_nr r) y2_4)))), (5, .int ((p_coins (ft_nr r) (w_truckByCoins (ft_nr r) (y2_4 - 1))) - (p_coins (ft_nr r) (w_truckByCoins (ft_nr r) y2_4)))), (4, .int ((w_truckByCoins (ft_nr r) y2_4))), (3, .int ((w_truckByCoins (ft_nr r) (y2_4 - 1)))), (0, .ref (a)), (1, .int (1)), (2, .int (y2_4))]) hx hb dL_areRanked_57 hl (by decide) rfl (fun ls hl => ?_)
          refine lv_iload hx hb dL_areRanked_59 (lv_at hl 1 rfl) ?_
          refine lv_if_gt (tgt := 85) hx hb dL_areRanked_61 (by decide) (fun c_61 => ?_) (fun c_61 => ?_)
          · skip
            refine lv_iconst (v := 1) hx hb dL_areRanked_85 (by decide) ?_
            refine lv_goto (tgt := 90) hx hb dL_areRanked_86 (by decide) ?_
            refine lv_istore_n (lv' := [(1, .int (1)), (6, .int ((s_L_stocks r (w_truckByCoins (ft_nr r) (y2_4 - 1))) - (s_L_stocks r (w_truckByCoins (ft_nr r) y2_4)))), (5, .int ((p_coins (ft_nr r) (w_truckByCoins (ft_nr r) (y2_4 - 1))) - (p_coins (ft_nr r) (w_truckByCoins (ft_nr r) y2_4)))), (4, .int ((w_truckByCoins (ft_nr r) y2_4))), (3, .int ((w_truckByCoins (ft_nr r) (y2_4 - 1)))), (0, .ref (a)), (2, .int (y2_4))]) hx hb dL_areRanked_90 rfl hl (by decide) rfl (fun ls hl => ?_)
            refine lv_iinc (v := y2_4 + 1) (lv' := [(2, .int (y2_4 + 1)), (1, .int (1)), (6, .int ((s_L_stocks r (w_truckByCoins (ft_nr r) (y2_4 - 1))) - (s_L_stocks r (w_truckByCoins (ft_nr r) y2_4)))), (5, .int ((p_coins (ft_nr r) (w_truckByCoins (ft_nr r) (y2_4 - 1))) - (p_coins (ft_nr r) (w_truckByCoins (ft_nr r) y2_4)))), (4, .int ((w_truckByCoins (ft_nr r) y2_4))), (3, .int ((w_truckByCoins (ft_nr r) (y2_4 - 1)))), (0, .ref (a))]) hx hb dL_areRanked_91 hl (k := 6) rfl rfl (by decide) rfl (fun ls hl => ?_)
            refine lv_goto (tgt := 4) hx hb dL_areRanked_94 (by decide) ?_
            refine W.widen (k := 0 + 20 * (i_4 + 1)) (n := 0 + 120 * (i_4 + 1)) (by omega) (by omega) ?_
            exact ih_4 (y2_4 + 1) (i_4 + 1) (by rw [hi_4, nI_1]) hlt_4 (by omega) (by omega) _ _ hP hS ls (lv_sub hl [6, 1, 0] rfl)
          · skip
            refine lv_iload hx hb dL_areRanked_64 (lv_at hl 1 rfl) ?_
            refine lv_if_ne (tgt := 89) hx hb dL_areRanked_66 (by decide) (fun c_66 => ?_) (fun c_66 => ?_)
            · skip
              exact absurd (((hJ.c2 hg _ i_4 hi_4 hv_4 hs_4.1).resolve_left c_61).1) c_66
            · skip
              refine lv_iload hx hb dL_areRanked_69 (lv_at hl 0 rfl) ?_
              refine lv_if_gt (tgt := 85) hx hb dL_areRanked_71 (by decide) (fun c_71 => ?_) (fun c_71 => ?_)
              · skip
                refine lv_iconst (v := 1) hx hb dL_areRanked_85 (by decide) ?_
                refine lv_goto (tgt := 90) hx hb dL_areRanked_86 (by decide) ?_
                refine lv_istore_n (lv' := [(1, .int (1)), (6, .int ((s_L_stocks r (w_truckByCoins (ft_nr r) (y2_4 - 1))) - (s_L_stocks r (w_truckByCoins (ft_nr r) y2_4)))), (5, .int ((p_coins (ft_nr r) (w_truckByCoins (ft_nr r) (y2_4 - 1))) - (p_coins (ft_nr r) (w_truckByCoins (ft_nr r) y2_4)))), (4, .int ((w_truckByCoins (ft_nr r) y2_4))), (3, .int ((w_truckByCoins (ft_nr r) (y2_4 - 1)))), (0, .ref (a)), (2, .int (y2_4))]) hx hb dL_areRanked_90 rfl hl (by decide) rfl (fun ls hl => ?_)
                refine lv_iinc (v := y2_4 + 1) (lv' := [(2, .int (y2_4 + 1)), (1, .int (1)), (6, .int ((s_L_stocks r (w_truckByCoins (ft_nr r) (y2_4 - 1))) - (s_L_stocks r (w_truckByCoins (ft_nr r) y2_4)))), (5, .int ((p_coins (ft_nr r) (w_truckByCoins (ft_nr r) (y2_4 - 1))) - (p_coins (ft_nr r) (w_truckByCoins (ft_nr r) y2_4)))), (4, .int ((w_truckByCoins (ft_nr r) y2_4))), (3, .int ((w_truckByCoins (ft_nr r) (y2_4 - 1)))), (0, .ref (a))]) hx hb dL_areRanked_91 hl (k := 6) rfl rfl (by decide) rfl (fun ls hl => ?_)
                refine lv_goto (tgt := 4) hx hb dL_areRanked_94 (by decide) ?_
                refine W.widen (k := 0 + 20 * (i_4 + 1)) (n := 0 + 120 * (i_4 + 1)) (by omega) (by omega) ?_
                exact ih_4 (y2_4 + 1) (i_4 + 1) (by rw [hi_4, nI_1]) hlt_4 (by omega) (by omega) _ _ hP hS ls (lv_sub hl [6, 1, 0] rfl)
              · skip
                refine lv_iload hx hb dL_areRanked_74 (lv_at hl 0 rfl) ?_
                refine lv_if_ne (tgt := 89) hx hb dL_areRanked_76 (by decide) (fun c_76 => ?_) (fun c_76 => ?_)
                · skip
                  exact absurd ((((hJ.c2 hg _ i_4 hi_4 hv_4 hs_4.1).resolve_left c_61).2.resolve_left c_71).1) c_76
                · skip
                  refine lv_iload_n hx hb dL_areRanked_79 rfl (lv_at hl 3 rfl) ?_
                  refine lv_iload hx hb dL_areRanked_80 (lv_at hl 2 rfl) ?_
                  refine lv_icmp_ge (tgt := 89) hx hb dL_areRanked_82 (by decide) (fun c_82 => ?_) (fun c_82 => ?_)
                  · skip
                    exact absurd c_82 ((by have h9 := (((hJ.c2 hg _ i_4 hi_4 hv_4 hs_4.1).resolve_left c_61).2.resolve_left c_71).2; rw [Int32.lt_iff_toInt_lt] at h9; rw [Int32.le_iff_toInt_le]; omega))
                  · skip
                    refine lv_iconst (v := 1) hx hb dL_areRanked_85 (by decide) ?_
                    refine lv_goto (tgt := 90) hx hb dL_areRanked_86 (by decide) ?_
                    refine lv_istore_n (lv' := [(1, .int (1)), (6, .int ((s_L_stocks r (w_truckByCoins (ft_nr r) (y2_4 - 1))) - (s_L_stocks r (w_truckByCoins (ft_nr r) y2_4)))), (5, .int ((p_coins (ft_nr r) (w_truckByCoins (ft_nr r) (y2_4 - 1))) - (p_coins (ft_nr r) (w_truckByCoins (ft_nr r) y2_4)))), (4, .int ((w_truckByCoins (ft_nr r) y2_4))), (3, .int ((w_truckByCoins (ft_nr r) (y2_4 - 1)))), (0, .ref (a)), (2, .int (y2_4))]) hx hb dL_areRanked_90 rfl hl (by decide) rfl (fun ls hl => ?_)
                    refine lv_iinc (v := y2_4 + 1) (lv' := [(2, .int (y2_4 + 1)), (1, .int (1)), (6, .int ((s_L_stocks r (w_truckByCoins (ft_nr r) (y2_4 - 1))) - (s_L_stocks r (w_truckByCoins (ft_nr r) y2_4)))), (5, .int ((p_coins (ft_nr r) (w_truckByCoins (ft_nr r) (y2_4 - 1))) - (p_coins (ft_nr r) (w_truckByCoins (ft_nr r) y2_4)))), (4, .int ((w_truckByCoins (ft_nr r) y2_4))), (3, .int ((w_truckByCoins (ft_nr r) (y2_4 - 1)))), (0, .ref (a))]) hx hb dL_areRanked_91 hl (k := 6) rfl rfl (by decide) rfl (fun ls hl => ?_)
                    refine lv_goto (tgt := 4) hx hb dL_areRanked_94 (by decide) ?_
                    refine W.widen (k := 0 + 20 * (i_4 + 1)) (n := 0 + 120 * (i_4 + 1)) (by omega) (by omega) ?_
                    exact ih_4 (y2_4 + 1) (i_4 + 1) (by rw [hi_4, nI_1]) hlt_4 (by omega) (by omega) _ _ hP hS ls (lv_sub hl [6, 1, 0] rfl)
  refine W.widen (k := 0 + 20 * 1) (n := 0 + 120 * 1) (by omega) (by omega) ?_
  refine loop_4 (fun y2_4 i_4 hi_4 hm_4 hv_4 H locs hP hS ls hl => ?_) (tn 6 + 1) 1 1 rfl (by decide) (by omega) (Nat.le_refl _) _ _ hP hS ls (lv_sub hl [2, 1, 0] rfl)
  have hm5_4 : i_4 ≤ 6 := hm_4
  refine W.widen (k := 120) (n := 720) (by omega) (by omega) ?_
  refine lv_iload_n hx hb dL_areRanked_97 rfl (lv_at hl 1 rfl) ?_
  refine W.widen (k := 120) (n := 720) (by omega) (by omega) ?_
  exact W.zret (v := 1) hx hb hr (rfl) (fun t ht hW => ⟨⟨1, σ, rfl, ⟨⟨rfl, ft_zm.rf⟩, hJ.mono h0 (by omega)⟩, by show ft_LW D k Z sz a _ t.heap; rw [ht]; exact hP⟩, hS.F ht⟩) hS.2.2 dL_areRanked_98
