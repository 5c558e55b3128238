def w_meanCoins (σ : ft_Sg) : UInt64 := match l_meanCoins σ with
  | .ok z => z
  | .error _ => 13830554455654793216
def ft_QWd (D : va_G) (k : Nat → ClassId) (Z : Nat → Nat → Nat) (sz : ft_SZ) (a : Nat) (σ : ft_Sg) (F : UInt64) : Array Value → State → Outcome → State → Prop := va_Qd (fun (z : UInt64) (_ : Unit) => z = F) (fun _ t => ft_LW D k Z sz a σ t.heap) (ft_AL sz)
set_option maxHeartbeats 4000000 in
set_option maxRecDepth 100000 in
theorem d_L_meanCoins (l : Launch) (hl0 : l.stackTraces = false) (D : va_G) (Z : Nat → Nat → Nat) (k : Nat → ClassId) (sz : ft_SZ) (a : Nat) (σ : ft_Sg) (hna : ¬ σ.1 0 0 = 0 → vf_n64 (FP.ddiv (FP.i2d (s_X4_sumOfCoins (σ.1 0))) (FP.i2d (σ.1 0 0)))) (hEx : ∀ E, (l_meanCoins σ) = .error E → E ∈ ["java/lang/ArithmeticException"]) : Met l yL_meanCoins wsL_meanCoins ({ frames := 7, cells := 1, slots := 6, locals := 130 }) (ft_PM D k Z sz a σ [.ref a]) (ft_QWd D k Z sz a σ (w_meanCoins σ)) 1 6 (ft_AL sz) := by
  refine va_MetW (cc := cL_meanCoins) (maxL := 4) (ret := (some .double)) (hh := [(4, 9, 12, 79)]) (by decide) rfl ?_
  intro p e s m args below meth c s₁ B hml hv
  obtain ⟨hargs, hP, hEL, hz⟩ := hv
  have hE := hEL.1
  subst hargs
  have hx := B.exec
  have hb := B.bytes
  have hr := B.returns
  have hts := atoms_spec (ws := wsL_meanCoins) B.pre
  have hown : s.vm.findClass RL = some m.cls := findClass_of_methodNamed B.named
  have hlocks := B.notSynchronized
  have htab : c.exceptionTable.toList = tableOf [(4, 9, 12, 79)] := vx_table (x := yL_meanCoins) B (hts _ List.mem_cons_self)
  have hS : va_S (ft_AL sz) s.heap s.heap [] := va_S.rf
  have hl := lv_entry ([.ref a]) (n := 4) (Nat.le_of_ble_eq_true rfl)
  rw [lg_entry_eq]
  generalize (lg_sl ([.ref a]) ++ List.replicate (4 - (lg_sl ([.ref a])).length) Slot.unset).toArray = ls at hl ⊢
  have hl : lv_has ls 4 [(0, .ref a)] := hl
  refine lv_ldc2d (v := 13830554455654793216) hx hb hown (hts (.constantDouble RL 73 (13830554455654793216)) (by decide +kernel)) dL_meanCoins_0 ?_
  refine lv_dstore_n (lv' := [(1, .double 13830554455654793216), (0, .ref a)]) hx hb dL_meanCoins_3 rfl hl (by decide) rfl (fun ls hl => ?_)
  refine lv_aload_n hx hb dL_meanCoins_4 rfl (lv_at hl 1 rfl) ?_
  refine vx_calld (vx_runV (As := []) (rest := []) ⟨hx, hb, hml, hown, hts⟩ (cl_meanCoins l hl0 D Z k sz a σ hna) (cwV 0 hts gL_meanCoins_X7_meanCoins rfl rfl rfl (by decide +kernel) ⟨Nat.le_of_ble_eq_true rfl, Nat.le_of_ble_eq_true rfl⟩) (ft_preL hE hz hS hP) rfl rfl hl.1 rfl (lv_room (Nat.le_of_ble_eq_true rfl)) dL_meanCoins_5 ⟨Nat.le_of_ble_eq_true rfl, Nat.le_of_ble_eq_true rfl⟩) hS (fun _ _ h => h) (fun _ h => h) (fun _ _ h => h) (fun E ce q9 u t H1 locs1 ht hvm hu hB hz1 hk1 hS1 hc1 hc2 hc3 => ?_) (fun z u t H1 locs1 ht hvm hw hB hz1 hk1 hS1 => ?_)
  · obtain ⟨hB1, hB2⟩ := hB
    rw [ht] at hB2
    have hm9 := hEx E hB1
    rcases List.mem_cons.mp hm9 with rfl | hm9
    · refine vx_catch hown (tableOf []) ⟨4, 9, 12, 79⟩ (tableOf []) (htab.trans rfl) (fun y9 hy9 => ?_) rfl (by decide) (va_Nw.use rfl (hEL.2.2.2.2 (79, "java/lang/ArithmeticException") (by decide +kernel))) (va_Nw.use rfl (hE.2.1.1 "java/lang/ArithmeticException" (by decide +kernel))) hc1 hc2 hc3 ?_
      · have hy9 : y9 ∈ ([] : List ExceptionTableEntry) := hy9
        exact absurd hy9 List.not_mem_nil
      refine W.eq (g2 := F0 m 12 ls [.ref q9]) rfl ?_
      refine lv_astore_n (lv' := [(3, .ref q9), (1, .double 13830554455654793216), (0, .ref a)]) hx hb dL_meanCoins_12 rfl hl (by decide) rfl (fun ls hl => ?_)
      refine lv_ldc2d (v := 13830554455654793216) hx hb hown (hts (.constantDouble RL 73 (13830554455654793216)) (by decide +kernel)) dL_meanCoins_13 ?_
      exact W.dret (v := 13830554455654793216) hx hb hr (fun t2 ht2 hW => ⟨⟨13830554455654793216, (), rfl, (show w_meanCoins σ = 13830554455654793216 by unfold w_meanCoins; rw [hB1]).symm, by show ft_LW D k Z sz a _ t2.heap; rw [ht2]; exact hB2⟩, hS1.F ht2⟩) hS1.2.2 dL_meanCoins_16
    exact absurd hm9 List.not_mem_nil
  rw [ht] at hB
  refine lv_dstore_n (lv' := [(1, .double z), (0, .ref a)]) hx hb dL_meanCoins_8 rfl hl (by decide) rfl (fun ls hl => ?_)
  refine lv_goto (tgt := 17) hx hb dL_meanCoins_9 (by decide) ?_
  refine lv_dload_n hx hb dL_meanCoins_17 rfl (lv_at hl 0 rfl) ?_
  exact W.dret (v := z) hx hb hr (fun t2 ht2 hW => ⟨⟨z, (), rfl, (show z = w_meanCoins σ by unfold w_meanCoins; rw [hw]), by show ft_LW D k Z sz a _ t2.heap; rw [ht2]; exact hB⟩, hS1.F ht2⟩) hS1.2.2 dL_meanCoins_18
theorem ex_meanCoins {σ : ft_Sg} : ∀ E, l_meanCoins σ = .error E → E ∈ ["java/lang/ArithmeticException"] := by
  intro E h
  unfold l_meanCoins s_X7_meanCoins at h
  split at h
  · rw [← Except.error.inj h]; decide
  · cases h
def w_servedShare (σ : ft_Sg) : UInt32 := match l_servedShare σ with
  | .ok z => z
  | .error _ => 3212836864
def ft_QWf (D : va_G) (k : Nat → ClassId) (Z : Nat → Nat → Nat) (sz : ft_SZ) (a : Nat) (σ : ft_Sg) (F : UInt32) : Array Value → State → Outcome → State → Prop := va_Qf (fun (z : UInt32) (_ : Unit) => z = F) (fun _ t => ft_LW D k Z sz a σ t.heap) (ft_AL sz)
set_option maxHeartbeats 4000000 in
set_option maxRecDepth 100000 in
theorem d_L_servedShare (l : Launch) (hl0 : l.stackTraces = false) (D : va_G) (Z : Nat → Nat → Nat) (k : Nat → ClassId) (sz : ft_SZ) (a : Nat) (σ : ft_Sg) (hna : ¬ σ.1 0 4 = 0 → vf_n32 (FP.fdiv (FP.i2f (σ.1 0 5)) (FP.i2f (σ.1 0 4)))) (hEx : ∀ E, (l_servedShare σ) = .error E → E ∈ ["java/lang/ArithmeticException"]) : Met l yL_servedShare wsL_servedShare ({ frames := 7, cells := 1, slots := 6, locals := 130 }) (ft_PM D k Z sz a σ [.ref a]) (ft_QWf D k Z sz a σ (w_servedShare σ)) 1 6 (ft_AL sz) := by
  refine va_MetW (cc := cL_servedShare) (maxL := 3) (ret := (some .float)) (hh := [(3, 8, 11, 79)]) (by decide) rfl ?_
  intro p e s m args below meth c s₁ B hml hv
  obtain ⟨hargs, hP, hEL, hz⟩ := hv
  have hE := hEL.1
  subst hargs
  have hx := B.exec
  have hb := B.bytes
  have hr := B.returns
  have hts := atoms_spec (ws := wsL_servedShare) B.pre
  have hown : s.vm.findClass RL = some m.cls := findClass_of_methodNamed B.named
  have hlocks := B.notSynchronized
  have htab : c.exceptionTable.toList = tableOf [(3, 8, 11, 79)] := vx_table (x := yL_servedShare) B (hts _ List.mem_cons_self)
  have hS : va_S (ft_AL sz) s.heap s.heap [] := va_S.rf
  have hl := lv_entry ([.ref a]) (n := 3) (Nat.le_of_ble_eq_true rfl)
  rw [lg_entry_eq]
  generalize (lg_sl ([.ref a]) ++ List.replicate (3 - (lg_sl ([.ref a])).length) Slot.unset).toArray = ls at hl ⊢
  have hl : lv_has ls 3 [(0, .ref a)] := hl
  refine lv_ldcf (v := 3212836864) hx hb hown (hts (.constantFloat RL 81 (3212836864)) (by decide +kernel)) dL_servedShare_0 ?_
  refine lv_fstore_n (lv' := [(1, .float 3212836864), (0, .ref a)]) hx hb dL_servedShare_2 rfl hl (by decide) rfl (fun ls hl => ?_)
  refine lv_aload_n hx hb dL_servedShare_3 rfl (lv_at hl 1 rfl) ?_
  refine vx_callf (vx_runV (As := []) (rest := []) ⟨hx, hb, hml, hown, hts⟩ (cl_servedShare l hl0 D Z k sz a σ hna) (cwV 0 hts gL_servedShare_X7_servedShare rfl rfl rfl (by decide +kernel) ⟨Nat.le_of_ble_eq_true rfl, Nat.le_of_ble_eq_true rfl⟩) (ft_preL hE hz hS hP) rfl rfl hl.1 rfl (lv_room (Nat.le_of_ble_eq_true rfl)) dL_servedShare_4 ⟨Nat.le_of_ble_eq_true rfl, Nat.le_of_ble_eq_true rfl⟩) hS (fun _ _ h => h) (fun _ h => h) (fun _ _ h => h) (fun E ce q9 u t H1 locs1 ht hvm hu hB hz1 hk1 hS1 hc1 hc2 hc3 => ?_) (fun z u t H1 locs1 ht hvm hw hB hz1 hk1 hS1 => ?_)
  · obtain ⟨hB1, hB2⟩ := hB
    rw [ht] at hB2
    have hm9 := hEx E hB1
    rcases List.mem_cons.mp hm9 with rfl | hm9
    · refine vx_catch hown (tableOf []) ⟨3, 8, 11, 79⟩ (tableOf []) (htab.trans rfl) (fun y9 hy9 => ?_) rfl (by decide) (va_Nw.use rfl (hEL.2.2.2.2 (79, "java/lang/ArithmeticException") (by decide +kernel))) (va_Nw.use rfl (hE.2.1.1 "java/lang/ArithmeticException" (by decide +kernel))) hc1 hc2 hc3 ?_
      · have hy9 : y9 ∈ ([] : List ExceptionTableEntry) := hy9
        exact absurd hy9 List.not_mem_nil
      refine W.eq (g2 := F0 m 11 ls [.ref q9]) rfl ?_
      refine lv_astore_n (lv' := [(2, .ref q9), (1, .float 3212836864), (0, .ref a)]) hx hb dL_servedShare_11 rfl hl (by decide) rfl (fun ls hl => ?_)
      refine lv_ldcf (v := 3212836864) hx hb hown (hts (.constantFloat RL 81 (3212836864)) (by decide +kernel)) dL_servedShare_12 ?_
      exact W.fret (v := 3212836864) hx hb hr (fun t2 ht2 hW => ⟨⟨3212836864, (), rfl, (show w_servedShare σ = 3212836864 by unfold w_servedShare; rw [hB1]).symm, by show ft_LW D k Z sz a _ t2.heap; rw [ht2]; exact hB2⟩, hS1.F ht2⟩) hS1.2.2 dL_servedShare_14
    exact absurd hm9 List.not_mem_nil
  rw [ht] at hB
  refine lv_fstore_n (lv' := [(1, .float z), (0, .ref a)]) hx hb dL_servedShare_7 rfl hl (by decide) rfl (fun ls hl => ?_)
  refine lv_goto (tgt := 15) hx hb dL_servedShare_8 (by decide) ?_
  refine lv_fload_n hx hb dL_servedShare_15 rfl (lv_at hl 0 rfl) ?_
  exact W.fret (v := z) hx hb hr (fun t2 ht2 hW => ⟨⟨z, (), rfl, (show z = w_servedShare σ by unfold w_servedShare; rw [hw]), by show ft_LW D k Z sz a _ t2.heap; rw [ht2]; exact hB⟩, hS1.F ht2⟩) hS1.2.2 dL_servedShare_16
theorem ex_servedShare {σ : ft_Sg} : ∀ E, l_servedShare σ = .error E → E ∈ ["java/lang/ArithmeticException"] := by
  intro E h
  unfold l_servedShare s_X7_servedShare at h
  split at h
  · rw [← Except.error.inj h]; decide
  · cases h
