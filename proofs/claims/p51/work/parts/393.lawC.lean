theorem ft_pr {y : Int32} {i : Nat} (hi : y = nI i) (h : 1 ≤ i) : y - 1 = nI (i - 1) := by
  rw [hi]
  obtain ⟨j, rfl⟩ : ∃ j, i = j + 1 := ⟨i - 1, by omega⟩
  rw [Nat.add_sub_cancel, ← nI_1]
  exact Int32.add_sub_cancel _ _
def s_L_isRota_L47 (σ : ft_Sg)  (y1_6 : Int32) (y2_6 : Int32) (y3_6 : Int32) (σ6 : ft_Sg) (K : Int32 → Int32 → Int32 → (Int32 × ft_Sg)) : Nat → Int32 → Int32 → Int32 → (Int32 × ft_Sg)
  | 0, y1_47, y2_47, y4_47 => K y1_47 y2_47 y4_47
  | n + 1, y1_47, y2_47, y4_47 => if y2_47 = 0 then (K y1_47 y2_47 y4_47) else (if 5 ≤ y4_47 then (K y1_47 y2_47 y4_47) else (if (w_truckAt ((l_renderDay σ6 y3_6).2) y4_47 y3_6) = (-1000) then (if (w_truckAt ((l_renderDay σ6 y3_6).2) y4_47 y3_6) = (-1000) then (if (p_outputAt ((l_renderDay σ6 y3_6).2) y4_47) = 45 then (if (w_truckAt ((l_renderDay σ6 y3_6).2) y4_47 y3_6) = (-1000) then (s_L_isRota_L47 σ y1_6 y2_6 y3_6 σ6 K n (y1_47 + 0) 1 (y4_47 + 1)) else (if (p_pitchOf ((l_renderDay σ6 y3_6).2) (w_truckAt ((l_renderDay σ6 y3_6).2) y4_47 y3_6) y3_6) = y4_47 then (if (p_hasPermit ((l_renderDay σ6 y3_6).2) (w_truckAt ((l_renderDay σ6 y3_6).2) y4_47 y3_6) y3_6) = 0 then (s_L_isRota_L47 σ y1_6 y2_6 y3_6 σ6 K n (y1_47 + 0) 0 (y4_47 + 1)) else (s_L_isRota_L47 σ y1_6 y2_6 y3_6 σ6 K n (y1_47 + 0) 1 (y4_47 + 1))) else (s_L_isRota_L47 σ y1_6 y2_6 y3_6 σ6 K n (y1_47 + 0) 0 (y4_47 + 1)))) else (s_L_isRota_L47 σ y1_6 y2_6 y3_6 σ6 K n (y1_47 + 0) 0 (y4_47 + 1))) else (if (p_outputAt ((l_renderDay σ6 y3_6).2) y4_47) = (((48 + (w_truckAt ((l_renderDay σ6 y3_6).2) y4_47 y3_6)).toUInt32 % 65536).toInt32) then (if (w_truckAt ((l_renderDay σ6 y3_6).2) y4_47 y3_6) = (-1000) then (s_L_isRota_L47 σ y1_6 y2_6 y3_6 σ6 K n (y1_47 + 0) 1 (y4_47 + 1)) else (if (p_pitchOf ((l_renderDay σ6 y3_6).2) (w_truckAt ((l_renderDay σ6 y3_6).2) y4_47 y3_6) y3_6) = y4_47 then (if (p_hasPermit ((l_renderDay σ6 y3_6).2) (w_truckAt ((l_renderDay σ6 y3_6).2) y4_47 y3_6) y3_6) = 0 then (s_L_isRota_L47 σ y1_6 y2_6 y3_6 σ6 K n (y1_47 + 0) 0 (y4_47 + 1)) else (s_L_isRota_L47 σ y1_6 y2_6 y3_6 σ6 K n (y1_47 + 0) 1 (y4_47 + 1))) else (s_L_isRota_L47 σ y1_6 y2_6 y3_6 σ6 K n (y1_47 + 0) 0 (y4_47 + 1)))) else (s_L_isRota_L47 σ y1_6 y2_6 y3_6 σ6 K n (y1_47 + 0) 0 (y4_47 + 1)))) else (if (w_truckAt ((l_renderDay σ6 y3_6).2) y4_47 y3_6) = (-1000) then (if (p_outputAt ((l_renderDay σ6 y3_6).2) y4_47) = 45 then (if (w_truckAt ((l_renderDay σ6 y3_6).2) y4_47 y3_6) = (-1000) then (s_L_isRota_L47 σ y1_6 y2_6 y3_6 σ6 K n (y1_47 + 1) 1 (y4_47 + 1)) else (if (p_pitchOf ((l_renderDay σ6 y3_6).2) (w_truckAt ((l_renderDay σ6 y3_6).2) y4_47 y3_6) y3_6) = y4_47 then (if (p_hasPermit ((l_renderDay σ6 y3_6).2) (w_truckAt ((l_renderDay σ6 y3_6).2) y4_47 y3_6) y3_6) = 0 then (s_L_isRota_L47 σ y1_6 y2_6 y3_6 σ6 K n (y1_47 + 1) 0 (y4_47 + 1)) else (s_L_isRota_L47 σ y1_6 y2_6 y3_6 σ6 K n (y1_47 + 1) 1 (y4_47 + 1))) else (s_L_isRota_L47 σ y1_6 y2_6 y3_6 σ6 K n (y1_47 + 1) 0 (y4_47 + 1)))) else (s_L_isRota_L47 σ y1_6 y2_6 y3_6 σ6 K n (y1_47 + 1) 0 (y4_47 + 1))) else (if (p_outputAt ((l_renderDay σ6 y3_6).2) y4_47) = (((48 + (w_truckAt ((l_renderDay σ6 y3_6).2) y4_47 y3_6)).toUInt32 % 65536).toInt32) then (if (w_truckAt ((l_renderDay σ6 y3_6).2) y4_47 y3_6) = (-1000) then (s_L_isRota_L47 σ y1_6 y2_6 y3_6 σ6 K n (y1_47 + 1) 1 (y4_47 + 1)) else (if (p_pitchOf ((l_renderDay σ6 y3_6).2) (w_truckAt ((l_renderDay σ6 y3_6).2) y4_47 y3_6) y3_6) = y4_47 then (if (p_hasPermit ((l_renderDay σ6 y3_6).2) (w_truckAt ((l_renderDay σ6 y3_6).2) y4_47 y3_6) y3_6) = 0 then (s_L_isRota_L47 σ y1_6 y2_6 y3_6 σ6 K n (y1_47 + 1) 0 (y4_47 + 1)) else (s_L_isRota_L47 σ y1_6 y2_6 y3_6 σ6 K n (y1_47 + 1) 1 (y4_47 + 1))) else (s_L_isRota_L47 σ y1_6 y2_6 y3_6 σ6 K n (y1_47 + 1) 0 (y4_47 + 1)))) else (s_L_isRota_L47 σ y1_6 y2_6 y3_6 σ6 K n (y1_47 + 1) 0 (y4_47 + 1))))))
def s_L_isRota_L6 (σ : ft_Sg)  (K : Int32 → Int32 → Int32 → ft_Sg → (Int32 × ft_Sg)) : Nat → Int32 → Int32 → Int32 → ft_Sg → (Int32 × ft_Sg)
  | 0, y1_6, y2_6, y3_6, σ6 => K y1_6 y2_6 y3_6 σ6
  | n + 1, y1_6, y2_6, y3_6, σ6 => if y2_6 = 0 then (K y1_6 y2_6 y3_6 σ6) else (if 7 ≤ y3_6 then (K y1_6 y2_6 y3_6 σ6) else (if (p_renderDay σ6 y3_6) = 5 then (if (w_firstFreePitch ((l_renderDay σ6 y3_6).2) y3_6) = (s_L_freeOn ((l_renderDay σ6 y3_6).2) y3_6) then (s_L_isRota_L47 σ y1_6 y2_6 y3_6 σ6 (fun y1_47 y2_47 y4_47 => s_L_isRota_L6 σ K n y1_47 y2_47 (y3_6 + 1) ((l_renderDay σ6 y3_6).2)) (tn 5 + 1) y1_6 1 0) else (s_L_isRota_L47 σ y1_6 y2_6 y3_6 σ6 (fun y1_47 y2_47 y4_47 => s_L_isRota_L6 σ K n y1_47 y2_47 (y3_6 + 1) ((l_renderDay σ6 y3_6).2)) (tn 5 + 1) y1_6 0 0)) else (s_L_isRota_L47 σ y1_6 y2_6 y3_6 σ6 (fun y1_47 y2_47 y4_47 => s_L_isRota_L6 σ K n y1_47 y2_47 (y3_6 + 1) ((l_renderDay σ6 y3_6).2)) (tn 5 + 1) y1_6 0 0)))
def s_L_isRota (σ : ft_Sg)  : Int32 × ft_Sg := s_L_isRota_L6 σ (fun y1_6 y2_6 y3_6 σ6 => if y2_6 = 0 then ((0, σ6)) else (if (l_assignments σ6) = y1_6 then (if (l_assignmentsByTrucks σ6) = y1_6 then (if (l_isConsistent σ6) = 0 then ((0, σ6)) else ((1, σ6))) else ((0, σ6))) else ((0, σ6)))) (tn 7 + 1) 0 1 0 σ
set_option maxHeartbeats 4000000 in
set_option maxRecDepth 100000 in
theorem c_L_isRota (l : Launch) (hl0 : l.stackTraces = false) (D : va_G) (Z : Nat → Nat → Nat) (k : Nat → ClassId) (sz : ft_SZ) (a : Nat) (σ : ft_Sg) (J : ft_Sg → Prop) (hJ : ft_JJ J) (h0 : J σ) : Met l yL_isRota wsL_isRota ({ frames := 10, cells := 476, slots := 7896, locals := 247 }) (ft_PM D k Z sz a σ [.ref a]) (ft_QJ J D k Z sz a (s_L_isRota σ)) 476 7896 (ft_AL sz) := by
  refine Met.ofW (cc := cL_isRota) (maxL := 7) (ret := (some .boolean)) (by decide) rfl ?_
  intro p e s m args below meth c s₁ B hml hv
  obtain ⟨hargs, hP, hEL, hz⟩ := hv
  have hE := hEL.1
  subst hargs
  have hx := B.exec
  have hb := B.bytes
  have hr := B.returns
  have hts := atoms_spec (ws := wsL_isRota) B.pre
  have hown : s.vm.findClass RL = some m.cls := findClass_of_methodNamed B.named
  have hlocks := B.notSynchronized
  have hS : va_S (ft_AL sz) s.heap s.heap [] := va_S.rf
  have hl := lv_entry ([.ref a]) (n := 7) (Nat.le_of_ble_eq_true rfl)
  rw [lg_entry_eq]
  generalize (lg_sl ([.ref a]) ++ List.replicate (7 - (lg_sl ([.ref a])).length) Slot.unset).toArray = ls at hl ⊢
  have hl : lv_has ls 7 [(0, .ref (a))] := hl
  have hsp := (s_L_isRota.eq_1 σ ).symm
  refine lv_iconst (v := 0) hx hb dL_isRota_0 (by decide) ?_
  refine lv_istore_n (lv' := [(1, .int (0)), (0, .ref (a))]) hx hb dL_isRota_1 rfl hl (by decide) rfl (fun ls hl => ?_)
  refine lv_iconst (v := 1) hx hb dL_isRota_2 (by decide) ?_
  refine lv_istore_n (lv' := [(2, .int (1)), (1, .int (0)), (0, .ref (a))]) hx hb dL_isRota_3 rfl hl (by decide) rfl (fun ls hl => ?_)
  refine lv_iconst (v := 0) hx hb dL_isRota_4 (by decide) ?_
  refine lv_istore_n (lv' := [(3, .int (0)), (2, .int (1)), (1, .int (0)), (0, .ref (a))]) hx hb dL_isRota_5 rfl hl (by decide) rfl (fun ls hl => ?_)
  have loop_6 : ∀ (K : Int32 → Int32 → Int32 → ft_Sg → (Int32 × ft_Sg)) (hKx : ∀ (y1_6 : Int32) (y2_6 : Int32) (y3_6 : Int32) (σ6 : ft_Sg) (i_6 : Nat) (hi_6 : y3_6 = nI i_6) (hm_6 : i_6 ≤ tn 7) (hj_6 : J σ6) (H : Heap) (locs : List Loc) (hP : ft_LW D k Z sz a σ6 H) (hS : va_S (ft_AL sz) s.heap H locs) (ls : Array Slot) (hl : lv_has ls 7 [(0, .ref (a)), (1, .int (y1_6)), (2, .int (y2_6)), (3, .int (y3_6))]) (hsp : K y1_6 y2_6 y3_6 σ6 = s_L_isRota σ), W p l e (headSpec wsL_isRota ({ frames := 10, cells := 476, slots := 7896, locals := 247 })).room s m ([.ref a] : List Value).toArray below meth c H locs (0 + 476) (0 + 7896) (MQ below (ft_QJ J D k Z sz a (s_L_isRota σ)) ([.ref a] : List Value).toArray s 476 7896 (ft_AL sz)) (F0 m 162 ls [])) (n_6 : Nat), ∀ (y1_6 : Int32) (y2_6 : Int32) (y3_6 : Int32) (σ6 : ft_Sg) (i_6 : Nat) (hi_6 : y3_6 = nI i_6) (hm_6 : i_6 ≤ tn 7) (hn_6 : tn 7 < n_6 + i_6) (hj_6 : J σ6) (H : Heap) (locs : List Loc) (hP : ft_LW D k Z sz a σ6 H) (hS : va_S (ft_AL sz) s.heap H locs) (ls : Array Slot) (hl : lv_has ls 7 [(0, .ref (a)), (1, .int (y1_6)), (2, .int (y2_6)), (3, .int (y3_6))]) (hsp : s_L_isRota_L6 σ K n_6 y1_6 y2_6 y3_6 σ6 = s_L_isRota σ), W p l e (headSpec wsL_isRota ({ frames := 10, cells := 476, slots := 7896, locals := 247 })).room s m ([.ref a] : List Value).toArray below meth c H locs (0 + 68 * i_6) (0 + 1128 * i_6) (MQ below (ft_QJ J D k Z sz a (s_L_isRota σ)) ([.ref a] : List Value).toArray s 476 7896 (ft_AL sz)) (F0 m 6 ls []) := by
    intro K hKx n_6
    induction n_6 with
    | zero => intro y1_6 y2_6 y3_6 σ6 i_6 hi_6 hm_6 hn_6; exact absurd hn_6 (by omega)
    | succ n ih_6 =>
      intro y1_6 y2_6 y3_6 σ6 i_6 hi_6 hm_6 hn_6 hj_6 H locs hP hS ls hl hsp
      rw [s_L_isRota_L6] at hsp
      have hm5_6 : i_6 ≤ 7 := hm_6
      refine lv_iload_n hx hb dL_isRota_6 rfl (lv_at hl 2 rfl) ?_
      refine lv_if_eq (tgt := 162) hx hb dL_isRota_7 (by decide) (fun c_7 => ?_) (fun c_7 => ?_)
      · replace hsp := (if_pos c_7).symm.trans hsp
        refine W.widen (k := 0 + 476) (n := 0 + 7896) (by omega) (by omega) ?_
        exact hKx y1_6 y2_6 y3_6 σ6 i_6 hi_6 hm_6 hj_6 _ _ hP hS ls (lv_sub hl [0, 1, 2, 3] rfl) hsp
      · replace hsp := (if_neg c_7).symm.trans hsp
        refine lv_iload_n hx hb dL_isRota_10 rfl (lv_at hl 3 rfl) ?_
        refine lv_bipush (v := 7) hx hb dL_isRota_11 (by decide) ?_
        refine lv_icmp_ge (tgt := 162) hx hb dL_isRota_13 (by decide) (fun c_13 => ?_) (fun c_13 => ?_)
        · replace hsp := (if_pos c_13).symm.trans hsp
          refine W.widen (k := 0 + 476) (n := 0 + 7896) (by omega) (by omega) ?_
          exact hKx y1_6 y2_6 y3_6 σ6 i_6 hi_6 hm_6 hj_6 _ _ hP hS ls (lv_sub hl [0, 1, 2, 3] rfl) hsp
        · replace hsp := (if_neg c_13).symm.trans hsp
          have hlt_6 := ft_step hi_6 hm_6 c_13
          have hl5_6 : i_6 + 1 ≤ 7 := hlt_6
          refine lv_aload_n hx hb dL_isRota_16 rfl (lv_at hl 0 rfl) ?_
          refine lv_iload_n hx hb dL_isRota_17 rfl (lv_at hl 3 rfl) ?_
          refine va_calli (va_runV (As := [.int (y3_6)]) (rest := []) ⟨hx, hb, hml, hown, hts⟩ (ft_noXs (cl_renderDay l hl0 D Z k sz a σ6 y3_6 (hJ.pm _ hj_6) (hJ.ok1 _ hj_6) (fun y => hJ.hH _ _ _ hj_6)) (hJ.o_renderDay _ _ hj_6 (ft_nw hi_6 hl5_6))) (cwV 1 hts gL_isRota_X7_renderDay rfl rfl rfl (by decide +kernel) ⟨Nat.le_of_ble_eq_true rfl, Nat.le_of_ble_eq_true rfl⟩) (ft_preL hE hz hS hP) rfl rfl hl.1 rfl (lv_room (Nat.le_of_ble_eq_true rfl)) dL_isRota_18 ⟨(show 0 + 68 * i_6 + 6 ≤ 476 by omega), (show 0 + 1128 * i_6 + 756 ≤ 7896 by omega)⟩) hS (fun _ _ h => h) (fun _ h => h) (fun z u t H1 locs1 ht hvm hw hB hz1 hk1 hS1 => ?_)
          obtain ⟨rfl, rfl⟩ : z = (p_renderDay σ6 y3_6) ∧ u = (l_renderDay σ6 y3_6).2 := ⟨congrArg Prod.fst hw, congrArg Prod.snd hw⟩
          rw [ht] at hB
          have hP := hB
          have hS := hS1
          clear hS1
          generalize H1 = H at hP hS ⊢
          refine W.widen (k := 6 + 68 * i_6) (n := 756 + 1128 * i_6) (by omega) (by omega) ?_
          have hJ_18_0 : J (l_renderDay σ6 y3_6).2 := hJ.k_renderDay _ y3_6 hj_6
          refine lv_iconst (v := 5) hx hb dL_isRota_21 (by decide) ?_
          refine lv_icmp_ne (tgt := 42) hx hb dL_isRota_22 (by decide) (fun c_22 => ?_) (fun c_22 => ?_)
          · replace hsp := (if_neg c_22).symm.trans hsp
            refine lv_iconst (v := 0) hx hb dL_isRota_42 (by decide) ?_
            refine lv_istore_n (lv' := [(2, .int (0)), (0, .ref (a)), (1, .int (y1_6)), (3, .int (y3_6))]) hx hb dL_isRota_43 rfl hl (by decide) rfl (fun ls hl => ?_)
            refine lv_iconst (v := 0) hx hb dL_isRota_44 (by decide) ?_
            refine lv_istore (lv' := [(4, .int (0)), (2, .int (0)), (0, .ref (a)), (1, .int (y1_6)), (3, .int (y3_6))]) hx hb dL_isRota_45 hl (by decide) rfl (fun ls hl => ?_)
            have loop_47 : ∀ (K : Int32 → Int32 → Int32 → (Int32 × ft_Sg)) (hKx : ∀ (y1_47 : Int32) (y2_47 : Int32) (y4_47 : Int32) (i_47 : Nat) (hi_47 : y4_47 = nI i_47) (hm_47 : i_47 ≤ tn 5) (hv_47 : ¬ y2_47 = 0 → p_renderDay σ6 y3_6 = 5) (H : Heap) (locs : List Loc) (hP : ft_LW D k Z sz a ((l_renderDay σ6 y3_6).2) H) (hS : va_S (ft_AL sz) s.heap H locs) (ls : Array Slot) (hl : lv_has ls 7 [(0, .ref (a)), (1, .int (y1_47)), (2, .int (y2_47)), (3, .int (y3_6)), (4, .int (y4_47))]) (hsp : K y1_47 y2_47 y4_47 = s_L_isRota σ), W p l e (headSpec wsL_isRota ({ frames := 10, cells := 476, slots := 7896, locals := 247 })).room s m ([.ref a] : List Value).toArray below meth c H locs (6 + 68 * i_6 + 45) (756 + 1128 * i_6 + 270) (MQ below (ft_QJ J D k Z sz a (s_L_isRota σ)) ([.ref a] : List Value).toArray s 476 7896 (ft_AL sz)) (F0 m 156 ls [])) (n_47 : Nat), ∀ (y1_47 : Int32) (y2_47 : Int32) (y4_47 : Int32) (i_47 : Nat) (hi_47 : y4_47 = nI i_47) (hm_47 : i_47 ≤ tn 5) (hn_47 : tn 5 < n_47 + i_47) (hv_47 : ¬ y2_47 = 0 → p_renderDay σ6 y3_6 = 5) (H : Heap) (locs : List Loc) (hP : ft_LW D k Z sz a ((l_renderDay σ6 y3_6).2) H) (hS : va_S (ft_AL sz) s.heap H locs) (ls : Array Slot) (hl : lv_has ls 7 [(0, .ref (a)), (1, .int (y1_47)), (2, .int (y2_47)), (3, .int (y3_6)), (4, .int (y4_47))]) (hsp : s_L_isRota_L47 σ y1_6 y2_6 y3_6 σ6 K n_47 y1_47 y2_47 y4_47 = s_L_isRota σ), W p l e (headSpec wsL_isRota ({ frames := 10, cells := 476, slots := 7896, locals := 247 })).room s m ([.ref a] : List Value).toArray below meth c H locs (6 + 68 * i_6 + 9 * i_47) (756 + 1128 * i_6 + 54 * i_47) (MQ below (ft_QJ J D k Z sz a (s_L_isRota σ)) ([.ref a] : List Value).toArray s 476 7896 (ft_AL sz)) (F0 m 47 ls []) := by
              intro K hKx n_47
              induction n_47 with
              | zero => intro y1_47 y2_47 y4_47 i_47 hi_47 hm_47 hn_47; exact absurd hn_47 (by omega)
              | succ n ih_47 =>
                intro y1_47 y2_47 y4_47 i_47 hi_47 hm_47 hn_47 hv_47 H locs hP hS ls hl hsp
                rw [s_L_isRota_L47] at hsp
                have hm5_47 : i_47 ≤ 5 := hm_47
                refine lv_iload_n hx hb dL_isRota_47 rfl (lv_at hl 2 rfl) ?_
                refine lv_if_eq (tgt := 156) hx hb dL_isRota_48 (by decide) (fun c_48 => ?_) (fun c_48 => ?_)
                · replace hsp := (if_pos c_48).symm.trans hsp
                  refine W.widen (k := 6 + 68 * i_6 + 45) (n := 756 + 1128 * i_6 + 270) (by omega) (by omega) ?_
                  exact hKx y1_47 y2_47 y4_47 i_47 hi_47 hm_47 (hv_47) _ _ hP hS ls (lv_sub hl [0, 1, 2, 3, 4] rfl) hsp
                · replace hsp := (if_neg c_48).symm.trans hsp
                  refine lv_iload hx hb dL_isRota_51 (lv_at hl 4 rfl) ?_
                  refine lv_iconst (v := 5) hx hb dL_isRota_53 (by decide) ?_
                  refine lv_icmp_ge (tgt := 156) hx hb dL_isRota_54 (by decide) (fun c_54 => ?_) (fun c_54 => ?_)
                  · replace hsp := (if_pos c_54).symm.trans hsp
                    refine W.widen (k := 6 + 68 * i_6 + 45) (n := 756 + 1128 * i_6 + 270) (by omega) (by omega) ?_
                    exact hKx y1_47 y2_47 y4_47 i_47 hi_47 hm_47 (hv_47) _ _ hP hS ls (lv_sub hl [0, 1, 2, 3, 4] rfl) hsp
                  · replace hsp := (if_neg c_54).symm.trans hsp
                    have hlt_47 := ft_step hi_47 hm_47 c_54
                    have hl5_47 : i_47 + 1 ≤ 5 := hlt_47
                    refine lv_aload_n hx hb dL_isRota_57 rfl (lv_at hl 0 rfl) ?_
                    refine lv_iload hx hb dL_isRota_58 (lv_at hl 4 rfl) ?_
                    refine lv_iload_n hx hb dL_isRota_60 rfl (lv_at hl 3 rfl) ?_
                    refine va_calli (vx_runSW (As := [.ref (a), .int (y4_47), .int (y3_6)]) (rest := []) ⟨hx, hb, hml, hown, hts⟩ (d_L_truckAt l hl0 D Z k sz a ((l_renderDay σ6 y3_6).2) y4_47 y3_6  (ex_truckAt)) (vx_cwSW 3 hts gL_isRota_L_truckAt rfl rfl rfl (by decide +kernel) ⟨Nat.le_of_ble_eq_true rfl, Nat.le_of_ble_eq_true rfl⟩) (ft_preM hEL hz hS hP) rfl rfl hl.1 rfl (lv_room (Nat.le_of_ble_eq_true rfl)) dL_isRota_61 ⟨(show 6 + 68 * i_6 + 9 * i_47 + 3 ≤ 476 by omega), (show 756 + 1128 * i_6 + 54 * i_47 + 18 ≤ 7896 by omega)⟩) hS (fun _ _ h => h) (fun _ h => h) (fun z u t H1 locs1 ht hvm hw hB hz1 hk1 hS1 => ?_)
                    obtain rfl : z = (w_truckAt ((l_renderDay σ6 y3_6).2) y4_47 y3_6) := hw
                    rw [ht] at hB
                    have hP := hB
                    have hS := hS1
                    clear hS1
                    generalize H1 = H at hP hS ⊢
                    refine W.widen (k := 9 + 68 * i_6 + 9 * i_47) (n := 774 + 1128 * i_6 + 54 * i_47) (by omega) (by omega) ?_
                    refine lv_istore (lv' := [(5, .int ((w_truckAt ((l_renderDay σ6 y3_6).2) y4_47 y3_6))), (0, .ref (a)), (1, .int (y1_47)), (2, .int (y2_47)), (3, .int (y3_6)), (4, .int (y4_47))]) hx hb dL_isRota_64 hl (by decide) rfl (fun ls hl => ?_)
                    refine lv_iload_n hx hb dL_isRota_66 rfl (lv_at hl 2 rfl) ?_
                    refine lv_iload hx hb dL_isRota_67 (lv_at hl 0 rfl) ?_
                    refine lv_sipush (v := (-1000)) hx hb dL_isRota_69 (by decide) ?_
                    refine lv_icmp_ne (tgt := 79) hx hb dL_isRota_72 (by decide) (fun c_72 => ?_) (fun c_72 => ?_)
                    · replace hsp := (if_neg c_72).symm.trans hsp
                      refine lv_iconst (v := 1) hx hb dL_isRota_79 (by decide) ?_
                      refine lv_iadd hx hb dL_isRota_80 ?_
                      refine lv_istore_n (lv' := [(1, .int (y1_47 + 1)), (5, .int ((w_truckAt ((l_renderDay σ6 y3_6).2) y4_47 y3_6))), (0, .ref (a)), (2, .int (y2_47)), (3, .int (y3_6)), (4, .int (y4_47))]) hx hb dL_isRota_81 rfl hl (by decide) rfl (fun ls hl => ?_)
                      refine lv_iload hx hb dL_isRota_82 (lv_at hl 1 rfl) ?_
                      refine lv_sipush (v := (-1000)) hx hb dL_isRota_84 (by decide) ?_
                      refine lv_icmp_ne (tgt := 95) hx hb dL_isRota_87 (by decide) (fun c_87 => ?_) (fun c_87 => ?_)
                      · replace hsp := (if_neg c_87).symm.trans hsp
                        refine lv_bipush (v := 48) hx hb dL_isRota_95 (by decide) ?_
                        refine lv_iload hx hb dL_isRota_97 (lv_at hl 1 rfl) ?_
                        refine lv_iadd hx hb dL_isRota_99 ?_
                        refine lv_i2c (v := ((48 + (w_truckAt ((l_renderDay σ6 y3_6).2) y4_47 y3_6)).toUInt32 % 65536).toInt32) hx hb dL_isRota_100 rfl ?_
                        refine lv_istore (lv' := [(6, .int (((48 + (w_truckAt ((l_renderDay σ6 y3_6).2) y4_47 y3_6)).toUInt32 % 65536).toInt32)), (1, .int (y1_47 + 1)), (5, .int ((w_truckAt ((l_renderDay σ6 y3_6).2) y4_47 y3_6))), (0, .ref (a)), (2, .int (y2_47)), (3, .int (y3_6)), (4, .int (y4_47))]) hx hb dL_isRota_101 hl (by decide) rfl (fun ls hl => ?_)
                        refine lv_aload_n hx hb dL_isRota_103 rfl (lv_at hl 3 rfl) ?_
                        refine lv_iload hx hb dL_isRota_104 (lv_at hl 6 rfl) ?_
                        refine va_calli (va_runV (As := [.int (y4_47)]) (rest := []) ⟨hx, hb, hml, hown, hts⟩ (ft_noX (cl_outputAt l hl0 D Z k sz a ((l_renderDay σ6 y3_6).2) y4_47 (ft_ok1c (hJ.ok1 _ hJ_18_0)).1 (ft_ok1c (hJ.ok1 _ hJ_18_0)).2) (hJ.o_outputAt _ _ _ i_47 hj_6 (ft_nw hi_6 hl5_6) (hv_47 (by assumption)) hi_47 hl5_47)) (cwV 1 hts gL_isRota_X7_outputAt rfl rfl rfl (by decide +kernel) ⟨Nat.le_of_ble_eq_true rfl, Nat.le_of_ble_eq_true rfl⟩) (ft_preL hE hz hS hP) rfl rfl hl.1 rfl (lv_room (Nat.le_of_ble_eq_true rfl)) dL_isRota_106 ⟨(show 9 + 68 * i_6 + 9 * i_47 + 1 ≤ 476 by omega), (show 774 + 1128 * i_6 + 54 * i_47 + 6 ≤ 7896 by omega)⟩) hS (fun _ _ h => h) (fun _ h => h) (fun z u t H1 locs1 ht hvm hw hB hz1 hk1 hS1 => ?_)
                        obtain rfl : z = (p_outputAt ((l_renderDay σ6 y3_6).2) y4_47) := hw
                        rw [ht] at hB
                        have hP := hB
                        have hS := hS1
                        clear hS1
                        generalize H1 = H at hP hS ⊢
                        refine W.widen (k := 10 + 68 * i_6 + 9 * i_47) (n := 780 + 1128 * i_6 + 54 * i_47) (by omega) (by omega) ?_
                        refine lv_iload hx hb dL_isRota_109 (lv_at hl 0 rfl) ?_
                        refine lv_icmp_ne (tgt := 148) hx hb dL_isRota_111 (by decide) (fun c_111 => ?_) (fun c_111 => ?_)
                        · replace hsp := (if_neg c_111).symm.trans hsp
                          refine lv_iconst (v := 0) hx hb dL_isRota_148 (by decide) ?_
                          refine lv_istore_n (lv' := [(2, .int (0)), (6, .int (((48 + (w_truckAt ((l_renderDay σ6 y3_6).2) y4_47 y3_6)).toUInt32 % 65536).toInt32)), (1, .int (y1_47 + 1)), (5, .int ((w_truckAt ((l_renderDay σ6 y3_6).2) y4_47 y3_6))), (0, .ref (a)), (3, .int (y3_6)), (4, .int (y4_47))]) hx hb dL_isRota_149 rfl hl (by decide) rfl (fun ls hl => ?_)
                          refine lv_iinc (v := y4_47 + 1) (lv' := [(4, .int (y4_47 + 1)), (2, .int (0)), (6, .int (((48 + (w_truckAt ((l_renderDay σ6 y3_6).2) y4_47 y3_6)).toUInt32 % 65536).toInt32)), (1, .int (y1_47 + 1)), (5, .int ((w_truckAt ((l_renderDay σ6 y3_6).2) y4_47 y3_6))), (0, .ref (a)), (3, .int (y3_6))]) hx hb dL_isRota_150 hl (k := 6) rfl rfl (by decide) rfl (fun ls hl => ?_)
                          refine lv_goto (tgt := 47) hx hb dL_isRota_153 (by decide) ?_
                          refine W.widen (k := 6 + 68 * i_6 + 9 * (i_47 + 1)) (n := 756 + 1128 * i_6 + 54 * (i_47 + 1)) (by omega) (by omega) ?_
                          exact ih_47 (y1_47 + 1) 0 (y4_47 + 1) (i_47 + 1) (by rw [hi_47, nI_1]) hlt_47 (by omega) (by first | exact fun h => absurd rfl h | exact fun _ => hv_47 (by assumption)) _ _ hP hS ls (lv_sub hl [5, 3, 1, 6, 0] rfl) hsp
                        · replace hsp := (if_pos c_111).symm.trans hsp
                          refine lv_iload hx hb dL_isRota_114 (lv_at hl 2 rfl) ?_
                          refine lv_sipush (v := (-1000)) hx hb dL_isRota_116 (by decide) ?_
                          refine lv_icmp_eq (tgt := 144) hx hb dL_isRota_119 (by decide) (fun c_119 => ?_) (fun c_119 => ?_)
                          · replace hsp := (if_pos c_119).symm.trans hsp
                            refine lv_iconst (v := 1) hx hb dL_isRota_144 (by decide) ?_
                            refine lv_goto (tgt := 149) hx hb dL_isRota_145 (by decide) ?_
                            refine lv_istore_n (lv' := [(2, .int (1)), (6, .int (((48 + (w_truckAt ((l_renderDay σ6 y3_6).2) y4_47 y3_6)).toUInt32 % 65536).toInt32)), (1, .int (y1_47 + 1)), (5, .int ((w_truckAt ((l_renderDay σ6 y3_6).2) y4_47 y3_6))), (0, .ref (a)), (3, .int (y3_6)), (4, .int (y4_47))]) hx hb dL_isRota_149 rfl hl (by decide) rfl (fun ls hl => ?_)
                            refine lv_iinc (v := y4_47 + 1) (lv' := [(4, .int (y4_47 + 1)), (2, .int (1)), (6, .int (((48 + (w_truckAt ((l_renderDay σ6 y3_6).2) y4_47 y3_6)).toUInt32 % 65536).toInt32)), (1, .int (y1_47 + 1)), (5, .int ((w_truckAt ((l_renderDay σ6 y3_6).2) y4_47 y3_6))), (0, .ref (a)), (3, .int (y3_6))]) hx hb dL_isRota_150 hl (k := 6) rfl rfl (by decide) rfl (fun ls hl => ?_)
                            refine lv_goto (tgt := 47) hx hb dL_isRota_153 (by decide) ?_
                            refine W.widen (k := 6 + 68 * i_6 + 9 * (i_47 + 1)) (n := 756 + 1128 * i_6 + 54 * (i_47 + 1)) (by omega) (by omega) ?_
                            exact ih_47 (y1_47 + 1) 1 (y4_47 + 1) (i_47 + 1) (by rw [hi_47, nI_1]) hlt_47 (by omega) (by first | exact fun h => absurd rfl h | exact fun _ => hv_47 (by assumption)) _ _ hP hS ls (lv_sub hl [5, 3, 1, 6, 0] rfl) hsp
                          · replace hsp := (if_neg c_119).symm.trans hsp
                            refine lv_aload_n hx hb dL_isRota_122 rfl (lv_at hl 3 rfl) ?_
                            refine lv_iload hx hb dL_isRota_123 (lv_at hl 2 rfl) ?_
                            refine lv_iload_n hx hb dL_isRota_125 rfl (lv_at hl 5 rfl) ?_
                            refine va_calli (va_runV (As := [.int ((w_truckAt ((l_renderDay σ6 y3_6).2) y4_47 y3_6)), .int (y3_6)]) (rest := []) ⟨hx, hb, hml, hown, hts⟩ (ft_noX (cl_pitchOf l hl0 D Z k sz a ((l_renderDay σ6 y3_6).2) (w_truckAt ((l_renderDay σ6 y3_6).2) y4_47 y3_6) y3_6 ) (hJ.o_pitchOf _ _ _ hJ_18_0 (by assumption))) (cwV 2 hts gL_isRota_X7_pitchOf rfl rfl rfl (by decide +kernel) ⟨Nat.le_of_ble_eq_true rfl, Nat.le_of_ble_eq_true rfl⟩) (ft_preL hE hz hS hP) rfl rfl hl.1 rfl (lv_room (Nat.le_of_ble_eq_true rfl)) dL_isRota_126 ⟨(show 10 + 68 * i_6 + 9 * i_47 + 3 ≤ 476 by omega), (show 780 + 1128 * i_6 + 54 * i_47 + 18 ≤ 7896 by omega)⟩) hS (fun _ _ h => h) (fun _ h => h) (fun z u t H1 locs1 ht hvm hw hB hz1 hk1 hS1 => ?_)
                            obtain rfl : z = (p_pitchOf ((l_renderDay σ6 y3_6).2) (w_truckAt ((l_renderDay σ6 y3_6).2) y4_47 y3_6) y3_6) := hw
                            rw [ht] at hB
                            have hP := hB
                            have hS := hS1
                            clear hS1
                            generalize H1 = H at hP hS ⊢
                            refine W.widen (k := 13 + 68 * i_6 + 9 * i_47) (n := 798 + 1128 * i_6 + 54 * i_47) (by omega) (by omega) ?_
                            refine lv_iload hx hb dL_isRota_129 (lv_at hl 6 rfl) ?_
                            refine lv_icmp_ne (tgt := 148) hx hb dL_isRota_131 (by decide) (fun c_131 => ?_) (fun c_131 => ?_)
                            · replace hsp := (if_neg c_131).symm.trans hsp
                              refine lv_iconst (v := 0) hx hb dL_isRota_148 (by decide) ?_
                              refine lv_istore_n (lv' := [(2, .int (0)), (6, .int (((48 + (w_truckAt ((l_renderDay σ6 y3_6).2) y4_47 y3_6)).toUInt32 % 65536).toInt32)), (1, .int (y1_47 + 1)), (5, .int ((w_truckAt ((l_renderDay σ6 y3_6).2) y4_47 y3_6))), (0, .ref (a)), (3, .int (y3_6)), (4, .int (y4_47))]) hx hb dL_isRota_149 rfl hl (by decide) rfl (fun ls hl => ?_)
                              refine lv_iinc (v := y4_47 + 1) (lv' := [(4, .int (y4_47 + 1)), (2, .int (0)), (6, .int (((48 + (w_truckAt ((l_renderDay σ6 y3_6).2) y4_47 y3_6)).toUInt32 % 65536).toInt32)), (1, .int (y1_47 + 1)), (5, .int ((w_truckAt ((l_renderDay σ6 y3_6).2) y4_47 y3_6))), (0, .ref (a)), (3, .int (y3_6))]) hx hb dL_isRota_150 hl (k := 6) rfl rfl (by decide) rfl (fun ls hl => ?_)
                              refine lv_goto (tgt := 47) hx hb dL_isRota_153 (by decide) ?_
                              refine W.widen (k := 6 + 68 * i_6 + 9 * (i_47 + 1)) (n := 756 + 1128 * i_6 + 54 * (i_47 + 1)) (by omega) (by omega) ?_
                              exact ih_47 (y1_47 + 1) 0 (y4_47 + 1) (i_47 + 1) (by rw [hi_47, nI_1]) hlt_47 (by omega) (by first | exact fun h => absurd rfl h | exact fun _ => hv_47 (by assumption)) _ _ hP hS ls (lv_sub hl [5, 3, 1, 6, 0] rfl) hsp
                            · replace hsp := (if_pos c_131).symm.trans hsp
                              refine lv_aload_n hx hb dL_isRota_134 rfl (lv_at hl 3 rfl) ?_
                              refine lv_iload hx hb dL_isRota_135 (lv_at hl 2 rfl) ?_
                              refine lv_iload_n hx hb dL_isRota_137 rfl (lv_at hl 5 rfl) ?_
                              refine va_calli (va_runV (As := [.int ((w_truckAt ((l_renderDay σ6 y3_6).2) y4_47 y3_6)), .int (y3_6)]) (rest := []) ⟨hx, hb, hml, hown, hts⟩ (ft_noX (cl_hasPermit l hl0 D Z k sz a ((l_renderDay σ6 y3_6).2) (w_truckAt ((l_renderDay σ6 y3_6).2) y4_47 y3_6) y3_6 ) (ok_hasPermit (hJ.o_tA _ _ _ hJ_18_0 (by assumption)) (ft_nw hi_6 hl5_6))) (cwV 2 hts gL_isRota_X7_hasPermit rfl rfl rfl (by decide +kernel) ⟨Nat.le_of_ble_eq_true rfl, Nat.le_of_ble_eq_true rfl⟩) (ft_preL hE hz hS hP) rfl rfl hl.1 rfl (lv_room (Nat.le_of_ble_eq_true rfl)) dL_isRota_138 ⟨(show 13 + 68 * i_6 + 9 * i_47 + 2 ≤ 476 by omega), (show 798 + 1128 * i_6 + 54 * i_47 + 12 ≤ 7896 by omega)⟩) hS (fun _ _ h => h) (fun _ h => h) (fun z u t H1 locs1 ht hvm hw hB hz1 hk1 hS1 => ?_)
                              obtain rfl : z = (p_hasPermit ((l_renderDay σ6 y3_6).2) (w_truckAt ((l_renderDay σ6 y3_6).2) y4_47 y3_6) y3_6) := hw
                              rw [ht] at hB
                              have hP := hB
                              have hS := hS1
                              clear hS1
                              generalize H1 = H at hP hS ⊢
                              refine W.widen (k := 15 + 68 * i_6 + 9 * i_47) (n := 810 + 1128 * i_6 + 54 * i_47) (by omega) (by omega) ?_
                              refine lv_if_eq (tgt := 148) hx hb dL_isRota_141 (by decide) (fun c_141 => ?_) (fun c_141 => ?_)
                              · replace hsp := (if_pos c_141).symm.trans hsp
                                refine lv_iconst (v := 0) hx hb dL_isRota_148 (by decide) ?_
                                refine lv_istore_n (lv' := [(2, .int (0)), (6, .int (((48 + (w_truckAt ((l_renderDay σ6 y3_6).2) y4_47 y3_6)).toUInt32 % 65536).toInt32)), (1, .int (y1_47 + 1)), (5, .int ((w_truckAt ((l_renderDay σ6 y3_6).2) y4_47 y3_6))), (0, .ref (a)), (3, .int (y3_6)), (4, .int (y4_47))]) hx hb dL_isRota_149 rfl hl (by decide) rfl (fun ls hl => ?_)
                                refine lv_iinc (v := y4_47 + 1) (lv' := [(4, .int (y4_47 + 1)), (2, .int (0)), (6, .int (((48 + (w_truckAt ((l_renderDay σ6 y3_6).2) y4_47 y3_6)).toUInt32 % 65536).toInt32)), (1, .int (y1_47 + 1)), (5, .int ((w_truckAt ((l_renderDay σ6 y3_6).2) y4_47 y3_6))), (0, .ref (a)), (3, .int (y3_6))]) hx hb dL_isRota_150 hl (k := 6) rfl rfl (by decide) rfl (fun ls hl => ?_)
                                refine lv_goto (tgt := 47) hx hb dL_isRota_153 (by decide) ?_
                                refine W.widen (k := 6 + 68 * i_6 + 9 * (i_47 + 1)) (n := 756 + 1128 * i_6 + 54 * (i_47 + 1)) (by omega) (by omega) ?_
                                exact ih_47 (y1_47 + 1) 0 (y4_47 + 1) (i_47 + 1) (by rw [hi_47, nI_1]) hlt_47 (by omega) (by first | exact fun h => absurd rfl h | exact fun _ => hv_47 (by assumption)) _ _ hP hS ls (lv_sub hl [5, 3, 1, 6, 0] rfl) hsp
                              · replace hsp := (if_neg c_141).symm.trans hsp
                                refine lv_iconst (v := 1) hx hb dL_isRota_144 (by decide) ?_
                                refine lv_goto (tgt := 149) hx hb dL_isRota_145 (by decide) ?_
                                refine lv_istore_n (lv' := [(2, .int (1)), (6, .int (((48 + (w_truckAt ((l_renderDay σ6 y3_6).2) y4_47 y3_6)).toUInt32 % 65536).toInt32)), (1, .int (y1_47 + 1)), (5, .int ((w_truckAt ((l_renderDay σ6 y3_6).2) y4_47 y3_6))), (0, .ref (a)), (3, .int (y3_6)), (4, .int (y4_47))]) hx hb dL_isRota_149 rfl hl (by decide) rfl (fun ls hl => ?_)
                                refine lv_iinc (v := y4_47 + 1) (lv' := [(4, .int (y4_47 + 1)), (2, .int (1)), (6, .int (((48 + (w_truckAt ((l_renderDay σ6 y3_6).2) y4_47 y3_6)).toUInt32 % 65536).toInt32)), (1, .int (y1_47 + 1)), (5, .int ((w_truckAt ((l_renderDay σ6 y3_6).2) y4_47 y3_6))), (0, .ref (a)), (3, .int (y3_6))]) hx hb dL_isRota_150 hl (k := 6) rfl rfl (by decide) rfl (fun ls hl => ?_)
                                refine lv_goto (tgt := 47) hx hb dL_isRota_153 (by decide) ?_
                                refine W.widen (k := 6 + 68 * i_6 + 9 * (i_47 + 1)) (n := 756 + 1128 * i_6 + 54 * (i_47 + 1)) (by omega) (by omega) ?_
                                exact ih_47 (y1_47 + 1) 1 (y4_47 + 1) (i_47 + 1) (by rw [hi_47, nI_1]) hlt_47 (by omega) (by first | exact fun h => absurd rfl h | exact fun _ => hv_47 (by assumption)) _ _ hP hS ls (lv_sub hl [5, 3, 1, 6, 0] rfl) hsp
                      · replace hsp := (if_pos c_87).symm.trans hsp
                        refine lv_bipush (v := 45) hx hb dL_isRota_90 (by decide) ?_
                        refine lv_goto (tgt := 101) hx hb dL_isRota_92 (by decide) ?_
                        refine lv_istore (lv' := [(6, .int (45)), (1, .int (y1_47 + 1)), (5, .int ((w_truckAt ((l_renderDay σ6 y3_6).2) y4_47 y3_6))), (0, .ref (a)), (2, .int (y2_47)), (3, .int (y3_6)), (4, .int (y4_47))]) hx hb dL_isRota_101 hl (by decide) rfl (fun ls hl => ?_)
                        refine lv_aload_n hx hb dL_isRota_103 rfl (lv_at hl 3 rfl) ?_
                        refine lv_iload hx hb dL_isRota_104 (lv_at hl 6 rfl) ?_
                        refine va_calli (va_runV (As := [.int (y4_47)]) (rest := []) ⟨hx, hb, hml, hown, hts⟩ (ft_noX (cl_outputAt l hl0 D Z k sz a ((l_renderDay σ6 y3_6).2) y4_47 (ft_ok1c (hJ.ok1 _ hJ_18_0)).1 (ft_ok1c (hJ.ok1 _ hJ_18_0)).2) (hJ.o_outputAt _ _ _ i_47 hj_6 (ft_nw hi_6 hl5_6) (hv_47 (by assumption)) hi_47 hl5_47)) (cwV 1 hts gL_isRota_X7_outputAt rfl rfl rfl (by decide +kernel) ⟨Nat.le_of_ble_eq_true rfl, Nat.le_of_ble_eq_true rfl⟩) (ft_preL hE hz hS hP) rfl rfl hl.1 rfl (lv_room (Nat.le_of_ble_eq_true rfl)) dL_isRota_106 ⟨(show 9 + 68 * i_6 + 9 * i_47 + 1 ≤ 476 by omega), (show 774 + 1128 * i_6 + 54 * i_47 + 6 ≤ 7896 by omega)⟩) hS (fun _ _ h => h) (fun _ h => h) (fun z u t H1 locs1 ht hvm hw hB hz1 hk1 hS1 => ?_)
                        obtain rfl : z = (p_outputAt ((l_renderDay σ6 y3_6).2) y4_47) := hw
                        rw [ht] at hB
                        have hP := hB
                        have hS := hS1
                        clear hS1
                        generalize H1 = H at hP hS ⊢
                        refine W.widen (k := 10 + 68 * i_6 + 9 * i_47) (n := 780 + 1128 * i_6 + 54 * i_47) (by omega) (by omega) ?_
                        refine lv_iload hx hb dL_isRota_109 (lv_at hl 0 rfl) ?_
                        refine lv_icmp_ne (tgt := 148) hx hb dL_isRota_111 (by decide) (fun c_111 => ?_) (fun c_111 => ?_)
                        · replace hsp := (if_neg c_111).symm.trans hsp
                          refine lv_iconst (v := 0) hx hb dL_isRota_148 (by decide) ?_
                          refine lv_istore_n (lv' := [(2, .int (0)), (6, .int (45)), (1, .int (y1_47 + 1)), (5, .int ((w_truckAt ((l_renderDay σ6 y3_6).2) y4_47 y3_6))), (0, .ref (a)), (3, .int (y3_6)), (4, .int (y4_47))]) hx hb dL_isRota_149 rfl hl (by decide) rfl (fun ls hl => ?_)
                          refine lv_iinc (v := y4_47 + 1) (lv' := [(4, .int (y4_47 + 1)), (2, .int (0)), (6, .int (45)), (1, .int (y1_47 + 1)), (5, .int ((w_truckAt ((l_renderDay σ6 y3_6).2) y4_47 y3_6))), (0, .ref (a)), (3, .int (y3_6))]) hx hb dL_isRota_150 hl (k := 6) rfl rfl (by decide) rfl (fun ls hl => ?_)
                          refine lv_goto (tgt := 47) hx hb dL_isRota_153 (by decide) ?_
                          refine W.widen (k := 6 + 68 * i_6 + 9 * (i_47 + 1)) (n := 756 + 1128 * i_6 + 54 * (i_47 + 1)) (by omega) (by omega) ?_
                          exact ih_47 (y1_47 + 1) 0 (y4_47 + 1) (i_47 + 1) (by rw [hi_47, nI_1]) hlt_47 (by omega) (by first | exact fun h => absurd rfl h | exact fun _ => hv_47 (by assumption)) _ _ hP hS ls (lv_sub hl [5, 3, 1, 6, 0] rfl) hsp
                        · replace hsp := (if_pos c_111).symm.trans hsp
                          refine lv_iload hx hb dL_isRota_114 (lv_at hl 2 rfl) ?_
                          refine lv_sipush (v := (-1000)) hx hb dL_isRota_116 (by decide) ?_
                          refine lv_icmp_eq (tgt := 144) hx hb dL_isRota_119 (by decide) (fun c_119 => ?_) (fun c_119 => ?_)
                          · replace hsp := (if_pos c_119).symm.trans hsp
                            refine lv_iconst (v := 1) hx hb dL_isRota_144 (by decide) ?_
                            refine lv_goto (tgt := 149) hx hb dL_isRota_145 (by decide) ?_
                            refine lv_istore_n (lv' := [(2, .int (1)), (6, .int (45)), (1, .int (y1_47 + 1)), (5, .int ((w_truckAt ((l_renderDay σ6 y3_6).2) y4_47 y3_6))), (0, .ref (a)), (3, .int (y3_6)), (4, .int (y4_47))]) hx hb dL_isRota_149 rfl hl (by decide) rfl (fun ls hl => ?_)
                            refine lv_iinc (v := y4_47 + 1) (lv' := [(4, .int (y4_47 + 1)), (2, .int (1)), (6, .int (45)), (1, .int (y1_47 + 1)), (5, .int ((w_truckAt ((l_renderDay σ6 y3_6).2) y4_47 y3_6))), (0, .ref (a)), (3, .int (y3_6))]) hx hb dL_isRota_150 hl (k := 6) rfl rfl (by decide) rfl (fun ls hl => ?_)
                            refine lv_goto (tgt := 47) hx hb dL_isRota_153 (by decide) ?_
                            refine W.widen (k := 6 + 68 * i_6 + 9 * (i_47 + 1)) (n := 756 + 1128 * i_6 + 54 * (i_47 + 1)) (by omega) (by omega) ?_
                            exact ih_47 (y1_47 + 1) 1 (y4_47 + 1) (i_47 + 1) (by rw [hi_47, nI_1]) hlt_47 (by omega) (by first | exact fun h => absurd rfl h | exact fun _ => hv_47 (by assumption)) _ _ hP hS ls (lv_sub hl [5, 3, 1, 6, 0] rfl) hsp
                          · replace hsp := (if_neg c_119).symm.trans hsp
                            refine lv_aload_n hx hb dL_isRota_122 rfl (lv_at hl 3 rfl) ?_
                            refine lv_iload hx hb dL_isRota_123 (lv_at hl 2 rfl) ?_
                            refine lv_iload_n hx hb dL_isRota_125 rfl (lv_at hl 5 rfl) ?_
                            refine va_calli (va_runV (As := [.int ((w_truckAt ((l_renderDay σ6 y3_6).2) y4_47 y3_6)), .int (y3_6)]) (rest := []) ⟨hx, hb, hml, hown, hts⟩ (ft_noX (cl_pitchOf l hl0 D Z k sz a ((l_renderDay σ6 y3_6).2) (w_truckAt ((l_renderDay σ6 y3_6).2) y4_47 y3_6) y3_6 ) (hJ.o_pitchOf _ _ _ hJ_18_0 (by assumption))) (cwV 2 hts gL_isRota_X7_pitchOf rfl rfl rfl (by decide +kernel) ⟨Nat.le_of_ble_eq_true rfl, Nat.le_of_ble_eq_true rfl⟩) (ft_preL hE hz hS hP) rfl rfl hl.1 rfl (lv_room (Nat.le_of_ble_eq_true rfl)) dL_isRota_126 ⟨(show 10 + 68 * i_6 + 9 * i_47 + 3 ≤ 476 by omega), (show 780 + 1128 * i_6 + 54 * i_47 + 18 ≤ 7896 by omega)⟩) hS (fun _ _ h => h) (fun _ h => h) (fun z u t H1 locs1 ht hvm hw hB hz1 hk1 hS1 => ?_)
                            obtain rfl : z = (p_pitchOf ((l_renderDay σ6 y3_6).2) (w_truckAt ((l_renderDay σ6 y3_6).2) y4_47 y3_6) y3_6) := hw
                            rw [ht] at hB
                            have hP := hB
                            have hS := hS1
                            clear hS1
                            generalize H1 = H at hP hS ⊢
                            refine W.widen (k := 13 + 68 * i_6 + 9 * i_47) (n := 798 + 1128 * i_6 + 54 * i_47) (by omega) (by omega) ?_
                            refine lv_iload hx hb dL_isRota_129 (lv_at hl 6 rfl) ?_
                            refine lv_icmp_ne (tgt := 148) hx hb dL_isRota_131 (by decide) (fun c_131 => ?_) (fun c_131 => ?_)
                            · replace hsp := (if_neg c_131).symm.trans hsp
                              refine lv_iconst (v := 0) hx hb dL_isRota_148 (by decide) ?_
                              refine lv_istore_n (lv' := [(2, .int (0)), (6, .int (45)), (1, .int (y1_47 + 1)), (5, .int ((w_truckAt ((l_renderDay σ6 y3_6).2) y4_47 y3_6))), (0, .ref (a)), (3, .int (y3_6)), (4, .int (y4_47))]) hx hb dL_isRota_149 rfl hl (by decide) rfl (fun ls hl => ?_)
                              refine lv_iinc (v := y4_47 + 1) (lv' := [(4, .int (y4_47 + 1)), (2, .int (0)), (6, .int (45)), (1, .int (y1_47 + 1)), (5, .int ((w_truckAt ((l_renderDay σ6 y3_6).2) y4_47 y3_6))), (0, .ref (a)), (3, .int (y3_6))]) hx hb dL_isRota_150 hl (k := 6) rfl rfl (by decide) rfl (fun ls hl => ?_)
                              refine lv_goto (tgt := 47) hx hb dL_isRota_153 (by decide) ?_
                              refine W.widen (k := 6 + 68 * i_6 + 9 * (i_47 + 1)) (n := 756 + 1128 * i_6 + 54 * (i_47 + 1)) (by omega) (by omega) ?_
                              exact ih_47 (y1_47 + 1) 0 (y4_47 + 1) (i_47 + 1) (by rw [hi_47, nI_1]) hlt_47 (by omega) (by first | exact fun h => absurd rfl h | exact fun _ => hv_47 (by assumption)) _ _ hP hS ls (lv_sub hl [5, 3, 1, 6, 0] rfl) hsp
                            · replace hsp := (if_pos c_131).symm.trans hsp
                              refine lv_aload_n hx hb dL_isRota_134 rfl (lv_at hl 3 rfl) ?_
                              refine lv_iload hx hb dL_isRota_135 (lv_at hl 2 rfl) ?_
                              refine lv_iload_n hx hb dL_isRota_137 rfl (lv_at hl 5 rfl) ?_
                              refine va_calli (va_runV (As := [.int ((w_truckAt ((l_renderDay σ6 y3_6).2) y4_47 y3_6)), .int (y3_6)]) (rest := []) ⟨hx, hb, hml, hown, hts⟩ (ft_noX (cl_hasPermit l hl0 D Z k sz a ((l_renderDay σ6 y3_6).2) (w_truckAt ((l_renderDay σ6 y3_6).2) y4_47 y3_6) y3_6 ) (ok_hasPermit (hJ.o_tA _ _ _ hJ_18_0 (by assumption)) (ft_nw hi_6 hl5_6))) (cwV 2 hts gL_isRota_X7_hasPermit rfl rfl rfl (by decide +kernel) ⟨Nat.le_of_ble_eq_true rfl, Nat.le_of_ble_eq_true rfl⟩) (ft_preL hE hz hS hP) rfl rfl hl.1 rfl (lv_room (Nat.le_of_ble_eq_true rfl)) dL_isRota_138 ⟨(show 13 + 68 * i_6 + 9 * i_47 + 2 ≤ 476 by omega), (show 798 + 1128 * i_6 + 54 * i_47 + 12 ≤ 7896 by omega)⟩) hS (fun _ _ h => h) (fun _ h => h) (fun z u t H1 locs1 ht hvm hw hB hz1 hk1 hS1 => ?_)
                              obtain rfl : z = (p_hasPermit ((l_renderDay σ6 y3_6).2) (w_truckAt ((l_renderDay σ6 y3_6).2) y4_47 y3_6) y3_6) := hw
                              rw [ht] at hB
                              have hP := hB
                              have hS := hS1
                              clear hS1
                              generalize H1 = H at hP hS ⊢
                              refine W.widen (k := 15 + 68 * i_6 + 9 * i_47) (n := 810 + 1128 * i_6 + 54 * i_47) (by omega) (by omega) ?_
                              refine lv_if_eq (tgt := 148) hx hb dL_isRota_141 (by decide) (fun c_141 => ?_) (fun c_141 => ?_)
                              · replace hsp := (if_pos c_141).symm.trans hsp
                                refine lv_iconst (v := 0) hx hb dL_isRota_148 (by decide) ?_
                                refine lv_istore_n (lv' := [(2, .int (0)), (6, .int (45)), (1, .int (y1_47 + 1)), (5, .int ((w_truckAt ((l_renderDay σ6 y3_6).2) y4_47 y3_6))), (0, .ref (a)), (3, .int (y3_6)), (4, .int (y4_47))]) hx hb dL_isRota_149 rfl hl (by decide) rfl (fun ls hl => ?_)
                                refine lv_iinc (v := y4_47 + 1) (lv' := [(4, .int (y4_47 + 1)), (2, .int (0)), (6, .int (45)), (1, .int (y1_47 + 1)), (5, .int ((w_truckAt ((l_renderDay σ6 y3_6).2) y4_47 y3_6))), (0, .ref (a)), (3, .int (y3_6))]) hx hb dL_isRota_150 hl (k := 6) rfl rfl (by decide) rfl (fun ls hl => ?_)
                                refine lv_goto (tgt := 47) hx hb dL_isRota_153 (by decide) ?_
                                refine W.widen (k := 6 + 68 * i_6 + 9 * (i_47 + 1)) (n := 756 + 1128 * i_6 + 54 * (i_47 + 1)) (by omega) (by omega) ?_
                                exact ih_47 (y1_47 + 1) 0 (y4_47 + 1) (i_47 + 1) (by rw [hi_47, nI_1]) hlt_47 (by omega) (by first | exact fun h => absurd rfl h | exact fun _ => hv_47 (by assumption)) _ _ hP hS ls (lv_sub hl [5, 3, 1, 6, 0] rfl) hsp
                              · replace hsp := (if_neg c_141).symm.trans hsp
                                refine lv_iconst (v := 1) hx hb dL_isRota_144 (by decide) ?_
                                refine lv_goto (tgt := 149) hx hb dL_isRota_145 (by decide) ?_
                                refine lv_istore_n (lv' := [(2, .int (1)), (6, .int (45)), (1, .int (y1_47 + 1)), (5, .int ((w_truckAt ((l_renderDay σ6 y3_6).2) y4_47 y3_6))), (0, .ref (a)), (3, .int (y3_6)), (4, .int (y4_47))]) hx hb dL_isRota_149 rfl hl (by decide) rfl (fun ls hl => ?_)
                                refine lv_iinc (v := y4_47 + 1) (lv' := [(4, .int (y4_47 + 1)), (2, .int (1)), (6, .int (45)), (1, .int (y1_47 + 1)), (5, .int ((w_truckAt ((l_renderDay σ6 y3_6).2) y4_47 y3_6))), (0, .ref (a)), (3, .int (y3_6))]) hx hb dL_isRota_150 hl (k := 6) rfl rfl (by decide) rfl (fun ls hl => ?_)
                                refine lv_goto (tgt := 47) hx hb dL_isRota_153 (by decide) ?_
                                refine W.widen (k := 6 + 68 * i_6 + 9 * (i_47 + 1)) (n := 756 + 1128 * i_6 + 54 * (i_47 + 1)) (by omega) (by omega) ?_
                                exact ih_47 (y1_47 + 1) 1 (y4_47 + 1) (i_47 + 1) (by rw [hi_47, nI_1]) hlt_47 (by omega) (by first | exact fun h => absurd rfl h | exact fun _ => hv_47 (by assumption)) _ _ hP hS ls (lv_sub hl [5, 3, 1, 6, 0] rfl) hsp
                    · replace hsp := (if_pos c_72).symm.trans hsp
                      refine lv_iconst (v := 0) hx hb dL_isRota_75 (by decide) ?_
                      refine lv_goto (tgt := 80) hx hb dL_isRota_76 (by decide) ?_
                      refine lv_iadd hx hb dL_isRota_80 ?_
                      refine lv_istore_n (lv' := [(1, .int (y1_47 + 0)), (5, .int ((w_truckAt ((l_renderDay σ6 y3_6).2) y4_47 y3_6))), (0, .ref (a)), (2, .int (y2_47)), (3, .int (y3_6)), (4, .int (y4_47))]) hx hb dL_isRota_81 rfl hl (by decide) rfl (fun ls hl => ?_)
                      refine lv_iload hx hb dL_isRota_82 (lv_at hl 1 rfl) ?_
                      refine lv_sipush (v := (-1000)) hx hb dL_isRota_84 (by decide) ?_
                      refine lv_icmp_ne (tgt := 95) hx hb dL_isRota_87 (by decide) (fun c_87 => ?_) (fun c_87 => ?_)
                      · replace hsp := (if_neg c_87).symm.trans hsp
                        refine lv_bipush (v := 48) hx hb dL_isRota_95 (by decide) ?_
                        refine lv_iload hx hb dL_isRota_97 (lv_at hl 1 rfl) ?_
                        refine lv_iadd hx hb dL_isRota_99 ?_
                        refine lv_i2c (v := ((48 + (w_truckAt ((l_renderDay σ6 y3_6).2) y4_47 y3_6)).toUInt32 % 65536).toInt32) hx hb dL_isRota_100 rfl ?_
                        refine lv_istore (lv' := [(6, .int (((48 + (w_truckAt ((l_renderDay σ6 y3_6).2) y4_47 y3_6)).toUInt32 % 65536).toInt32)), (1, .int (y1_47 + 0)), (5, .int ((w_truckAt ((l_renderDay σ6 y3_6).2) y4_47 y3_6))), (0, .ref (a)), (2, .int (y2_47)), (3, .int (y3_6)), (4, .int (y4_47))]) hx hb dL_isRota_101 hl (by decide) rfl (fun ls hl => ?_)
                        refine lv_aload_n hx hb dL_isRota_103 rfl (lv_at hl 3 rfl) ?_
                        refine lv_iload hx hb dL_isRota_104 (lv_at hl 6 rfl) ?_
                        refine va_calli (va_runV (As := [.int (y4_47)]) (rest := []) ⟨hx, hb, hml, hown, hts⟩ (ft_noX (cl_outputAt l hl0 D Z k sz a ((l_renderDay σ6 y3_6).2) y4_47 (ft_ok1c (hJ.ok1 _ hJ_18_0)).1 (ft_ok1c (hJ.ok1 _ hJ_18_0)).2) (hJ.o_outputAt _ _ _ i_47 hj_6 (ft_nw hi_6 hl5_6) (hv_47 (by assumption)) hi_47 hl5_47)) (cwV 1 hts gL_isRota_X7_outputAt rfl rfl rfl (by decide +kernel) ⟨Nat.le_of_ble_eq_true rfl, Nat.le_of_ble_eq_true rfl⟩) (ft_preL hE hz hS hP) rfl rfl hl.1 rfl (lv_room (Nat.le_of_ble_eq_true rfl)) dL_isRota_106 ⟨(show 9 + 68 * i_6 + 9 * i_47 + 1 ≤ 476 by omega), (show 774 + 1128 * i_6 + 54 * i_47 + 6 ≤ 7896 by omega)⟩) hS (fun _ _ h => h) (fun _ h => h) (fun z u t H1 locs1 ht hvm hw hB hz1 hk1 hS1 => ?_)
                        obtain rfl : z = (p_outputAt ((l_renderDay σ6 y3_6).2) y4_47) := hw
                        rw [ht] at hB
                        have hP := hB
                        have hS := hS1
                        clear hS1
                        generalize H1 = H at hP hS ⊢
                        refine W.widen (k := 10 + 68 * i_6 + 9 * i_47) (n := 780 + 1128 * i_6 + 54 * i_47) (by omega) (by omega) ?_
                        refine lv_iload hx hb dL_isRota_109 (lv_at hl 0 rfl) ?_
                        refine lv_icmp_ne (tgt := 148) hx hb dL_isRota_111 (by decide) (fun c_111 => ?_) (fun c_111 => ?_)
                        · replace hsp := (if_neg c_111).symm.trans hsp
                          refine lv_iconst (v := 0) hx hb dL_isRota_148 (by decide) ?_
                          refine lv_istore_n (lv' := [(2, .int (0)), (6, .int (((48 + (w_truckAt ((l_renderDay σ6 y3_6).2) y4_47 y3_6)).toUInt32 % 65536).toInt32)), (1, .int (y1_47 + 0)), (5, .int ((w_truckAt ((l_renderDay σ6 y3_6).2) y4_47 y3_6))), (0, .ref (a)), (3, .int (y3_6)), (4, .int (y4_47))]) hx hb dL_isRota_149 rfl hl (by decide) rfl (fun ls hl => ?_)
                          refine lv_iinc (v := y4_47 + 1) (lv' := [(4, .int (y4_47 + 1)), (2, .int (0)), (6, .int (((48 + (w_truckAt ((l_renderDay σ6 y3_6).2) y4_47 y3_6)).toUInt32 % 65536).toInt32)), (1, .int (y1_47 + 0)), (5, .int ((w_truckAt ((l_renderDay σ6 y3_6).2) y4_47 y3_6))), (0, .ref (a)), (3, .int (y3_6))]) hx hb dL_isRota_150 hl (k := 6) rfl rfl (by decide) rfl (fun ls hl => ?_)
                          refine lv_goto (tgt := 47) hx hb dL_isRota_153 (by decide) ?_
                          refine W.widen (k := 6 + 68 * i_6 + 9 * (i_47 + 1)) (n := 756 + 1128 * i_6 + 54 * (i_47 + 1)) (by omega) (by omega) ?_
                          exact ih_47 (y1_47 + 0) 0 (y4_47 + 1) (i_47 + 1) (by rw [hi_47, nI_1]) hlt_47 (by omega) (by first | exact fun h => absurd rfl h | exact fun _ => hv_47 (by assumption)) _ _ hP hS ls (lv_sub hl [5, 3, 1, 6, 0] rfl) hsp
                        · replace hsp := (if_pos c_111).symm.trans hsp
                          refine lv_iload hx hb dL_isRota_114 (lv_at hl 2 rfl) ?_
                          refine lv_sipush (v := (-1000)) hx hb dL_isRota_116 (by decide) ?_
                          refine lv_icmp_eq (tgt := 144) hx hb dL_isRota_119 (by decide) (fun c_119 => ?_) (fun c_119 => ?_)
                          · replace hsp := (if_pos c_119).symm.trans hsp
                            refine lv_iconst (v := 1) hx hb dL_isRota_144 (by decide) ?_
                            refine lv_goto (tgt := 149) hx hb dL_isRota_145 (by decide) ?_
                            refine lv_istore_n (lv' := [(2, .int (1)), (6, .int (((48 + (w_truckAt ((l_renderDay σ6 y3_6).2) y4_47 y3_6)).toUInt32 % 65536).toInt32)), (1, .int (y1_47 + 0)), (5, .int ((w_truckAt ((l_renderDay σ6 y3_6).2) y4_47 y3_6))), (0, .ref (a)), (3, .int (y3_6)), (4, .int (y4_47))]) hx hb dL_isRota_149 rfl hl (by decide) rfl (fun ls hl => ?_)
                            refine lv_iinc (v := y4_47 + 1) (lv' := [(4, .int (y4_47 + 1)), (2, .int (1)), (6, .int (((48 + (w_truckAt ((l_renderDay σ6 y3_6).2) y4_47 y3_6)).toUInt32 % 65536).toInt32)), (1, .int (y1_47 + 0)), (5, .int ((w_truckAt ((l_renderDay σ6 y3_6).2) y4_47 y3_6))), (0, .ref (a)), (3, .int (y3_6))]) hx hb dL_isRota_150 hl (k := 6) rfl rfl (by decide) rfl (fun ls hl => ?_)
                            refine lv_goto (tgt := 47) hx hb dL_isRota_153 (by decide) ?_
                            refine W.widen (k := 6 + 68 * i_6 + 9 * (i_47 + 1)) (n := 756 + 1128 * i_6 + 54 * (i_47 + 1)) (by omega) (by omega) ?_
                            exact ih_47 (y1_47 + 0) 1 (y4_47 + 1) (i_47 + 1) (by rw [hi_47, nI_1]) hlt_47 (by omega) (by first | exact fun h => absurd rfl h | exact fun _ => hv_47 (by assumption)) _ _ hP hS ls (lv_sub hl [5, 3, 1, 6, 0] rfl) hsp
                          · replace hsp := (if_neg c_119).symm.trans hsp
                            refine lv_aload_n hx hb dL_isRota_122 rfl (lv_at hl 3 rfl) ?_
                            refine lv_iload hx hb dL_isRota_123 (lv_at hl 2 rfl) ?_
                            refine lv_iload_n hx hb dL_isRota_125 rfl (lv_at hl 5 rfl) ?_
                            refine va_calli (va_runV (As := [.int ((w_truckAt ((l_renderDay σ6 y3_6).2) y4_47 y3_6)), .int (y3_6)]) (rest := []) ⟨hx, hb, hml, hown, hts⟩ (ft_noX (cl_pitchOf l hl0 D Z k sz a ((l_renderDay σ6 y3_6).2) (w_truckAt ((l_renderDay σ6 y3_6).2) y4_47 y3_6) y3_6 ) (hJ.o_pitchOf _ _ _ hJ_18_0 (by assumption))) (cwV 2 hts gL_isRota_X7_pitchOf rfl rfl rfl (by decide +kernel) ⟨Nat.le_of_ble_eq_true rfl, Nat.le_of_ble_eq_true rfl⟩) (ft_preL hE hz hS hP) rfl rfl hl.1 rfl (lv_room (Nat.le_of_ble_eq_true rfl)) dL_isRota_126 ⟨(show 10 + 68 * i_6 + 9 * i_47 + 3 ≤ 476 by omega), (show 780 + 1128 * i_6 + 54 * i_47 + 18 ≤ 7896 by omega)⟩) hS (fun _ _ h => h) (fun _ h => h) (fun z u t H1 locs1 ht hvm hw hB hz1 hk1 hS1 => ?_)
                            obtain rfl : z = (p_pitchOf ((l_renderDay σ6 y3_6).2) (w_truckAt ((l_renderDay σ6 y3_6).2) y4_47 y3_6) y3_6) := hw
                            rw [ht] at hB
                            have hP := hB
                            have hS := hS1
                            clear hS1
                            generalize H1 = H at hP hS ⊢
                            refine W.widen (k := 13 + 68 * i_6 + 9 * i_47) (n := 798 + 1128 * i_6 + 54 * i_47) (by omega) (by omega) ?_
                            refine lv_iload hx hb dL_isRota_129 (lv_at hl 6 rfl) ?_
                            refine lv_icmp_ne (tgt := 148) hx hb dL_isRota_131 (by decide) (fun c_131 => ?_) (fun c_131 => ?_)
                            · replace hsp := (if_neg c_131).symm.trans hsp
                              refine lv_iconst (v := 0) hx hb dL_isRota_148 (by decide) ?_
                              refine lv_istore_n (lv' := [(2, .int (0)), (6, .int (((48 + (w_truckAt ((l_renderDay σ6 y3_6).2) y4_47 y3_6)).toUInt32 % 65536).toInt32)), (1, .int (y1_47 + 0)), (5, .int ((w_truckAt ((l_renderDay σ6 y3_6).2) y4_47 y3_6))), (0, .ref (a)), (3, .int (y3_6)), (4, .int (y4_47))]) hx hb dL_isRota_149 rfl hl (by decide) rfl (fun ls hl => ?_)
                              refine lv_iinc (v := y4_47 + 1) (lv' := [(4, .int (y4_47 + 1)), (2, .int (0)), (6, .int (((48 + (w_truckAt ((l_renderDay σ6 y3_6).2) y4_47 y3_6)).toUInt32 % 65536).toInt32)), (1, .int (y1_47 + 0)), (5, .int ((w_truckAt ((l_renderDay σ6 y3_6).2) y4_47 y3_6))), (0, .ref (a)), (3, .int (y3_6))]) hx hb dL_isRota_150 hl (k := 6) rfl rfl (by decide) rfl (fun ls hl => ?_)
                              refine lv_goto (tgt := 47) hx hb dL_isRota_153 (by decide) ?_
                              refine W.widen (k := 6 + 68 * i_6 + 9 * (i_47 + 1)) (n := 756 + 1128 * i_6 + 54 * (i_47 + 1)) (by omega) (by omega) ?_
                              exact ih_47 (y1_47 + 0) 0 (y4_47 + 1) (i_47 + 1) (by rw [hi_47, nI_1]) hlt_47 (by omega) (by first | exact fun h => absurd rfl h | exact fun _ => hv_47 (by assumption)) _ _ hP hS ls (lv_sub hl [5, 3, 1, 6, 0] rfl) hsp
                            · replace hsp := (if_pos c_131).symm.trans hsp
                              refine lv_aload_n hx hb dL_isRota_134 rfl (lv_at hl 3 rfl) ?_
                              refine lv_iload hx hb dL_isRota_135 (lv_at hl 2 rfl) ?_
                              refine lv_iload_n hx hb dL_isRota_137 rfl (lv_at hl 5 rfl) ?_
                              refine va_calli (va_runV (As := [.int ((w_truckAt ((l_renderDay σ6 y3_6).2) y4_47 y3_6)), .int (y3_6)]) (rest := []) ⟨hx, hb, hml, hown, hts⟩ (ft_noX (cl_hasPermit l hl0 D Z k sz a ((l_renderDay σ6 y3_6).2) (w_truckAt ((l_renderDay σ6 y3_6).2) y4_47 y3_6) y3_6 ) (ok_hasPermit (hJ.o_tA _ _ _ hJ_18_0 (by assumption)) (ft_nw hi_6 hl5_6))) (cwV 2 hts gL_isRota_X7_hasPermit rfl rfl rfl (by decide +kernel) ⟨Nat.le_of_ble_eq_true rfl, Nat.le_of_ble_eq_true rfl⟩) (ft_preL hE hz hS hP) rfl rfl hl.1 rfl (lv_room (Nat.le_of_ble_eq_true rfl)) dL_isRota_138 ⟨(show 13 + 68 * i_6 + 9 * i_47 + 2 ≤ 476 by omega), (show 798 + 1128 * i_6 + 54 * i_47 + 12 ≤ 7896 by omega)⟩) hS (fun _ _ h => h) (fun _ h => h) (fun z u t H1 locs1 ht hvm hw hB hz1 hk1 hS1 => ?_)
                              obtain rfl : z = (p_hasPermit ((l_renderDay σ6 y3_6).2) (w_truckAt ((l_renderDay σ6 y3_6).2) y4_47 y3_6) y3_6) := hw
                              rw [ht] at hB
                              have hP := hB
                              have hS := hS1
                              clear hS1
                              generalize H1 = H at hP hS ⊢
                              refine W.widen (k := 15 + 68 * i_6 + 9 * i_47) (n := 810 + 1128 * i_6 + 54 * i_47) (by omega) (by omega) ?_
                              refine lv_if_eq (tgt := 148) hx hb dL_isRota_141 (by decide) (fun c_141 => ?_) (fun c_141 => ?_)
                              · replace hsp := (if_pos c_141).symm.trans hsp
                                refine lv_iconst (v := 0) hx hb dL_isRota_148 (by decide) ?_
                                refine lv_istore_n (lv' := [(2, .int (0)), (6, .int (((48 + (w_truckAt ((l_renderDay σ6 y3_6).2) y4_47 y3_6)).toUInt32 % 65536).toInt32)), (1, .int (y1_47 + 0)), (5, .int ((w_truckAt ((l_renderDay σ6 y3_6).2) y4_47 y3_6))), (0, .ref (a)), (3, .int (y3_6)), (4, .int (y4_47))]) hx hb dL_isRota_149 rfl hl (by decide) rfl (fun ls hl => ?_)
                                refine lv_iinc (v := y4_47 + 1) (lv' := [(4, .int (y4_47 + 1)), (2, .int (0)), (6, .int (((48 + (w_truckAt ((l_renderDay σ6 y3_6).2) y4_47 y3_6)).toUInt32 % 65536).toInt32)), (1, .int (y1_47 + 0)), (5, .int ((w_truckAt ((l_renderDay σ6 y3_6).2) y4_47 y3_6))), (0, .ref (a)), (3, .int (y3_6))]) hx hb dL_isRota_150 hl (k := 6) rfl rfl (by decide) rfl (fun ls hl => ?_)
                                refine lv_goto (tgt := 47) hx hb dL_isRota_153 (by decide) ?_
                                refine W.widen (k := 6 + 68 * i_6 + 9 * (i_47 + 1)) (n := 756 + 1128 * i_6 + 54 * (i_47 + 1)) (by omega) (by omega) ?_
                                exact ih_47 (y1_47 + 0) 0 (y4_47 + 1) (i_47 + 1) (by rw [hi_47, nI_1]) hlt_47 (by omega) (by first | exact fun h => absurd rfl h | exact fun _ => hv_47 (by assumption)) _ _ hP hS ls (lv_sub hl [5, 3, 1, 6, 0] rfl) hsp
                              · replace hsp := (if_neg c_141).symm.trans hsp
                                refine lv_iconst (v := 1) hx hb dL_isRota_144 (by decide) ?_
                                refine lv_goto (tgt := 149) hx hb dL_isRota_145 (by decide) ?_
                                refine lv_istore_n (lv' := [(2, .int (1)), (6, .int (((48 + (w_truckAt ((l_renderDay σ6 y3_6).2) y4_47 y3_6)).toUInt32 % 65536).toInt32)), (1, .int (y1_47 + 0)), (5, .int ((w_truckAt ((l_renderDay σ6 y3_6).2) y4_47 y3_6))), (0, .ref (a)), (3, .int (y3_6)), (4, .int (y4_47))]) hx hb dL_isRota_149 rfl hl (by decide) rfl (fun ls hl => ?_)
                                refine lv_iinc (v := y4_47 + 1) (lv' := [(4, .int (y4_47 + 1)), (2, .int (1)), (6, .int (((48 + (w_truckAt ((l_renderDay σ6 y3_6).2) y4_47 y3_6)).toUInt32 % 65536).toInt32)), (1, .int (y1_47 + 0)), (5, .int ((w_truckAt ((l_renderDay σ6 y3_6).2) y4_47 y3_6))), (0, .ref (a)), (3, .int (y3_6))]) hx hb dL_isRota_150 hl (k := 6) rfl rfl (by decide) rfl (fun ls hl => ?_)
                                refine lv_goto (tgt := 47) hx hb dL_isRota_153 (by decide) ?_
                                refine W.widen (k := 6 + 68 * i_6 + 9 * (i_47 + 1)) (n := 756 + 1128 * i_6 + 54 * (i_47 + 1)) (by omega) (by omega) ?_
                                exact ih_47 (y1_47 + 0) 1 (y4_47 + 1) (i_47 + 1) (by rw [hi_47, nI_1]) hlt_47 (by omega) (by first | exact fun h => absurd rfl h | exact fun _ => hv_47 (by assumption)) _ _ hP hS ls (lv_sub hl [5, 3, 1, 6, 0] rfl) hsp
                      · replace hsp := (if_pos c_87).symm.trans hsp
                        refine lv_bipush (v := 45) hx hb dL_isRota_90 (by decide) ?_
                        refine lv_goto (tgt := 101) hx hb dL_isRota_92 (by decide) ?_
                        refine lv_istore (lv' := [(6, .int (45)), (1, .int (y1_47 + 0)), (5, .int ((w_truckAt ((l_renderDay σ6 y3_6).2) y4_47 y3_6))), (0, .ref (a)), (2, .int (y2_47)), (3, .int (y3_6)), (4, .int (y4_47))]) hx hb dL_isRota_101 hl (by decide) rfl (fun ls hl => ?_)
                        refine lv_aload_n hx hb dL_isRota_103 rfl (lv_at hl 3 rfl) ?_
                        refine lv_iload hx hb dL_isRota_104 (lv_at hl 6 rfl) ?_
                        refine va_calli (va_runV (As := [.int (y4_47)]) (rest := []) ⟨hx, hb, hml, hown, hts⟩ (ft_noX (cl_outputAt l hl0 D Z k sz a ((l_renderDay σ6 y3_6).2) y4_47 (ft_ok1c (hJ.ok1 _ hJ_18_0)).1 (ft_ok1c (hJ.ok1 _ hJ_18_0)).2) (hJ.o_outputAt _ _ _ i_47 hj_6 (ft_nw hi_6 hl5_6) (hv_47 (by assumption)) hi_47 hl5_47)) (cwV 1 hts gL_isRota_X7_outputAt rfl rfl rfl (by decide +kernel) ⟨Nat.le_of_ble_eq_true rfl, Nat.le_of_ble_eq_true rfl⟩) (ft_preL hE hz hS hP) rfl rfl hl.1 rfl (lv_room (Nat.le_of_ble_eq_true rfl)) dL_isRota_106 ⟨(show 9 + 68 * i_6 + 9 * i_47 + 1 ≤ 476 by omega), (show 774 + 1128 * i_6 + 54 * i_47 + 6 ≤ 7896 by omega)⟩) hS (fun _ _ h => h) (fun _ h => h) (fun z u t H1 locs1 ht hvm hw hB hz1 hk1 hS1 => ?_)
                        obtain rfl : z = (p_outputAt ((l_renderDay σ6 y3_6).2) y4_47) := hw
                        rw [ht] at hB
                        have hP := hB
                        have hS := hS1
                        clear hS1
                        generalize H1 = H at hP hS ⊢
                        refine W.widen (k := 10 + 68 * i_6 + 9 * i_47) (n := 780 + 1128 * i_6 + 54 * i_47) (by omega) (by omega) ?_
                        refine lv_iload hx hb dL_isRota_109 (lv_at hl 0 rfl) ?_
                        refine lv_icmp_ne (tgt := 148) hx hb dL_isRota_111 (by decide) (fun c_111 => ?_) (fun c_111 => ?_)
                        · replace hsp := (if_neg c_111).symm.trans hsp
                          refine lv_iconst (v := 0) hx hb dL_isRota_148 (by decide) ?_
                          refine lv_istore_n (lv' := [(2, .int (0)), (6, .int (45)), (1, .int (y1_47 + 0)), (5, .int ((w_truckAt ((l_renderDay σ6 y3_6).2) y4_47 y3_6))), (0, .ref (a)), (3, .int (y3_6)), (4, .int (y4_47))]) hx hb dL_isRota_149 rfl hl (by decide) rfl (fun ls hl => ?_)
                          refine lv_iinc (v := y4_47 + 1) (lv' := [(4, .int (y4_47 + 1)), (2, .int (0)), (6, .int (45)), (1, .int (y1_47 + 0)), (5, .int ((w_truckAt ((l_renderDay σ6 y3_6).2) y4_47 y3_6))), (0, .ref (a)), (3, .int (y3_6))]) hx hb dL_isRota_150 hl (k := 6) rfl rfl (by decide) rfl (fun ls hl => ?_)
                          refine lv_goto (tgt := 47) hx hb dL_isRota_153 (by decide) ?_
                          refine W.widen (k := 6 + 68 * i_6 + 9 * (i_47 + 1)) (n := 756 + 1128 * i_6 + 54 * (i_47 + 1)) (by omega) (by omega) ?_
                          exact ih_47 (y1_47 + 0) 0 (y4_47 + 1) (i_47 + 1) (by rw [hi_47, nI_1]) hlt_47 (by omega) (by first | exact fun h => absurd rfl h | exact fun _ => hv_47 (by assumption)) _ _ hP hS ls (lv_sub hl [5, 3, 1, 6, 0] rfl) hsp
                        · replace hsp := (if_pos c_111).symm.trans hsp
                          refine lv_iload hx hb dL_isRota_114 (lv_at hl 2 rfl) ?_
                          refine lv_sipush (v := (-1000)) hx hb dL_isRota_116 (by decide) ?_
                          refine lv_icmp_eq (tgt := 144) hx hb dL_isRota_119 (by decide) (fun c_119 => ?_) (fun c_119 => ?_)
                          · replace hsp := (if_pos c_119).symm.trans hsp
                            refine lv_iconst (v := 1) hx hb dL_isRota_144 (by decide) ?_
                            refine lv_goto (tgt := 149) hx hb dL_isRota_145 (by decide) ?_
                            refine lv_istore_n (lv' := [(2, .int (1)), (6, .int (45)), (1, .int (y1_47 + 0)), (5, .int ((w_truckAt ((l_renderDay σ6 y3_6).2) y4_47 y3_6))), (0, .ref (a)), (3, .int (y3_6)), (4, .int (y4_47))]) hx hb dL_isRota_149 rfl hl (by decide) rfl (fun ls hl => ?_)
                            refine lv_iinc (v := y4_47 + 1) (lv' := [(4, .int (y4_47 + 1)), (2, .int (1)), (6, .int (45)), (1, .int (y1_47 + 0)), (5, .int ((w_truckAt ((l_renderDay σ6 y3_6).2) y4_47 y3_6))), (0, .ref (a)), (3, .int (y3_6))]) hx hb dL_isRota_150 hl (k := 6) rfl rfl (by decide) rfl (fun ls hl => ?_)
                            refine lv_goto (tgt := 47) hx hb dL_isRota_153 (by decide) ?_
                            refine W.widen (k := 6 + 68 * i_6 + 9 * (i_47 + 1)) (n := 756 + 1128 * i_6 + 54 * (i_47 + 1)) (by omega) (by omega) ?_
                            exact ih_47 (y1_47 + 0) 1 (y4_47 + 1) (i_47 + 1) (by rw [hi_47, nI_1]) hlt_47 (by omega) (by first | exact fun h => absurd rfl h | exact fun _ => hv_47 (by assumption)) _ _ hP hS ls (lv_sub hl [5, 3, 1, 6, 0] rfl) hsp
                          · replace hsp := (if_neg c_119).symm.trans hsp
                            refine lv_aload_n hx hb dL_isRota_122 rfl (lv_at hl 3 rfl) ?_
                            refine lv_iload hx hb dL_isRota_123 (lv_at hl 2 rfl) ?_
                            refine lv_iload_n hx hb dL_isRota_125 rfl (lv_at hl 5 rfl) ?_
                            refine va_calli (va_runV (As := [.int ((w_truckAt ((l_renderDay σ6 y3_6).2) y4_47 y3_6)), .int (y3_6)]) (rest := []) ⟨hx, hb, hml, hown, hts⟩ (ft_noX (cl_pitchOf l hl0 D Z k sz a ((l_renderDay σ6 y3_6).2) (w_truckAt ((l_renderDay σ6 y3_6).2) y4_47 y3_6) y3_6 ) (hJ.o_pitchOf _ _ _ hJ_18_0 (by assumption))) (cwV 2 hts gL_isRota_X7_pitchOf rfl rfl rfl (by decide +kernel) ⟨Nat.le_of_ble_eq_true rfl, Nat.le_of_ble_eq_true rfl⟩) (ft_preL hE hz hS hP) rfl rfl hl.1 rfl (lv_room (Nat.le_of_ble_eq_true rfl)) dL_isRota_126 ⟨(show 10 + 68 * i_6 + 9 * i_47 + 3 ≤ 476 by omega), (show 780 + 1128 * i_6 + 54 * i_47 + 18 ≤ 7896 by omega)⟩) hS (fun _ _ h => h) (fun _ h => h) (fun z u t H1 locs1 ht hvm hw hB hz1 hk1 hS1 => ?_)
                            obtain rfl : z = (p_pitchOf ((l_renderDay σ6 y3_6).2) (w_truckAt ((l_renderDay σ6 y3_6).2) y4_47 y3_6) y3_6) := hw
                            rw [ht] at hB
                            have hP := hB
                            have hS := hS1
                            clear hS1
                            generalize H1 = H at hP hS ⊢
                            refine W.widen (k := 13 + 68 * i_6 + 9 * i_47) (n := 798 + 1128 * i_6 + 54 * i_47) (by omega) (by omega) ?_
                            refine lv_iload hx hb dL_isRota_129 (lv_at hl 6 rfl) ?_
                            refine lv_icmp_ne (tgt := 148) hx hb dL_isRota_131 (by decide) (fun c_131 => ?_) (fun c_131 => ?_)
                            · replace hsp := (if_neg c_131).symm.trans hsp
                              refine lv_iconst (v := 0) hx hb dL_isRota_148 (by decide) ?_
                              refine lv_istore_n (lv' := [(2, .int (0)), (6, .int (45)), (1, .int (y1_47 + 0)), (5, .int ((w_truckAt ((l_renderDay σ6 y3_6).2) y4_47 y3_6))), (0, .ref (a)), (3, .int (y3_6)), (4, .int (y4_47))]) hx hb dL_isRota_149 rfl hl (by decide) rfl (fun ls hl => ?_)
                              refine lv_iinc (v := y4_47 + 1) (lv' := [(4, .int (y4_47 + 1)), (2, .int (0)), (6, .int (45)), (1, .int (y1_47 + 0)), (5, .int ((w_truckAt ((l_renderDay σ6 y3_6).2) y4_47 y3_6))), (0, .ref (a)), (3, .int (y3_6))]) hx hb dL_isRota_150 hl (k := 6) rfl rfl (by decide) rfl (fun ls hl => ?_)
                              refine lv_goto (tgt := 47) hx hb dL_isRota_153 (by decide) ?_
                              refine W.widen (k := 6 + 68 * i_6 + 9 * (i_47 + 1)) (n := 756 + 1128 * i_6 + 54 * (i_47 + 1)) (by omega) (by omega) ?_
                              exact ih_47 (y1_47 + 0) 0 (y4_47 + 1) (i_47 + 1) (by rw [hi_47, nI_1]) hlt_47 (by omega) (by first | exact fun h => absurd rfl h | exact fun _ => hv_47 (by assumption)) _ _ hP hS ls (lv_sub hl [5, 3, 1, 6, 0] rfl) hsp
                            · replace hsp := (if_pos c_131).symm.trans hsp
                              refine lv_aload_n hx hb dL_isRota_134 rfl (lv_at hl 3 rfl) ?_
                              refine lv_iload hx hb dL_isRota_135 (lv_at hl 2 rfl) ?_
                              refine lv_iload_n hx hb dL_isRota_137 rfl (lv_at hl 5 rfl) ?_
                              refine va_calli (va_runV (As := [.int ((w_truckAt ((l_renderDay σ6 y3_6).2) y4_47 y3_6)), .int (y3_6)]) (rest := []) ⟨hx, hb, hml, hown, hts⟩ (ft_noX (cl_hasPermit l hl0 D Z k sz a ((l_renderDay σ6 y3_6).2) (w_truckAt ((l_renderDay σ6 y3_6).2) y4_47 y3_6) y3_6 ) (ok_hasPermit (hJ.o_tA _ _ _ hJ_18_0 (by assumption)) (ft_nw hi_6 hl5_6))) (cwV 2 hts gL_isRota_X7_hasPermit rfl rfl rfl (by decide +kernel) ⟨Nat.le_of_ble_eq_true rfl, Nat.le_of_ble_eq_true rfl⟩) (ft_preL hE hz hS hP) rfl rfl hl.1 rfl (lv_room (Nat.le_of_ble_eq_true rfl)) dL_isRota_138 ⟨(show 13 + 68 * i_6 + 9 * i_47 + 2 ≤ 476 by omega), (show 798 + 1128 * i_6 + 54 * i_47 + 12 ≤ 7896 by omega)⟩) hS (fun _ _ h => h) (fun _ h => h) (fun z u t H1 locs1 ht hvm hw hB hz1 hk1 hS1 => ?_)
                              obtain rfl : z = (p_hasPermit ((l_renderDay σ6 y3_6).2) (w_truckAt ((l_renderDay σ6 y3_6).2) y4_47 y3_6) y3_6) := hw
                              rw [ht] at hB
                              have hP := hB
                              have hS := hS1
                              clear hS1
                              generalize H1 = H at hP hS ⊢
                              refine W.widen (k := 15 + 68 * i_6 + 9 * i_47) (n := 810 + 1128 * i_6 + 54 * i_47) (by omega) (by omega) ?_
                              refine lv_if_eq (tgt := 148) hx hb dL_isRota_141 (by decide) (fun c_141 => ?_) (fun c_141 => ?_)
                              · replace hsp := (if_pos c_141).symm.trans hsp
                                refine lv_iconst (v := 0) hx hb dL_isRota_148 (by decide) ?_
                                refine lv_istore_n (lv' := [(2, .int (0)), (6, .int (45)), (1, .int (y1_47 + 0)), (5, .int ((w_truckAt ((l_renderDay σ6 y3_6).2) y4_47 y3_6))), (0, .ref (a)), (3, .int (y3_6)), (4, .int (y4_47))]) hx hb dL_isRota_149 rfl hl (by decide) rfl (fun ls hl => ?_)
                                refine lv_iinc (v := y4_47 + 1) (lv' := [(4, .int (y4_47 + 1)), (2, .int (0)), (6, .int (45)), (1, .int (y1_47 + 0)), (5, .int ((w_truckAt ((l_renderDay σ6 y3_6).2) y4_47 y3_6))), (0, .ref (a)), (3, .int (y3_6))]) hx hb dL_isRota_150 hl (k := 6) rfl rfl (by decide) rfl (fun ls hl => ?_)
                                refine lv_goto (tgt := 47) hx hb dL_isRota_153 (by decide) ?_
                                refine W.widen (k := 6 + 68 * i_6 + 9 * (i_47 + 1)) (n := 756 + 1128 * i_6 + 54 * (i_47 + 1)) (by omega) (by omega) ?_
                                exact ih_47 (y1_47 + 0) 0 (y4_47 + 1) (i_47 + 1) (by rw [hi_47, nI_1]) hlt_47 (by omega) (by first | exact fun h => absurd rfl h | exact fun _ => hv_47 (by assumption)) _ _ hP hS ls (lv_sub hl [5, 3, 1, 6, 0] rfl) hsp
                              · replace hsp := (if_neg c_141).symm.trans hsp
                                refine lv_iconst (v := 1) hx hb dL_isRota_144 (by decide) ?_
                                refine lv_goto (tgt := 149) hx hb dL_isRota_145 (by decide) ?_
                                refine lv_istore_n (lv' := [(2, .int (1)), (6, .int (45)), (1, .int (y1_47 + 0)), (5, .int ((w_truckAt ((l_renderDay σ6 y3_6).2) y4_47 y3_6))), (0, .ref (a)), (3, .int (y3_6)), (4, .int (y4_47))]) hx hb dL_isRota_149 rfl hl (by decide) rfl (fun ls hl => ?_)
                                refine lv_iinc (v := y4_47 + 1) (lv' := [(4, .int (y4_47 + 1)), (2, .int (1)), (6, .int (45)), (1, .int (y1_47 + 0)), (5, .int ((w_truckAt ((l_renderDay σ6 y3_6).2) y4_47 y3_6))), (0, .ref (a)), (3, .int (y3_6))]) hx hb dL_isRota_150 hl (k := 6) rfl rfl (by decide) rfl (fun ls hl => ?_)
                                refine lv_goto (tgt := 47) hx hb dL_isRota_153 (by decide) ?_
                                refine W.widen (k := 6 + 68 * i_6 + 9 * (i_47 + 1)) (n := 756 + 1128 * i_6 + 54 * (i_47 + 1)) (by omega) (by omega) ?_
                                exact ih_47 (y1_47 + 0) 1 (y4_47 + 1) (i_47 + 1) (by rw [hi_47, nI_1]) hlt_47 (by omega) (by first | exact fun h => absurd rfl h | exact fun _ => hv_47 (by assumption)) _ _ hP hS ls (lv_sub hl [5, 3, 1, 6, 0] rfl) hsp
            refine W.widen (k := 6 + 68 * i_6 + 9 * 0) (n := 756 + 1128 * i_6 + 54 * 0) (by omega) (by omega) ?_
            refine loop_47 _ (fun y1_47 y2_47 y4_47 i_47 hi_47 hm_47 hv_47 H locs hP hS ls hl hsp => ?_) (tn 5 + 1) y1_6 0 0 0 rfl (Nat.zero_le _) (by omega) (by first | exact fun h => absurd rfl h | exact fun _ => by assumption) _ _ hP hS ls (lv_sub hl [2, 3, 1, 4, 0] rfl) hsp
            refine W.widen (k := 51 + 68 * i_6) (n := 1026 + 1128 * i_6) (by omega) (by omega) ?_
            refine lv_iinc (v := y3_6 + 1) (lv' := [(3, .int (y3_6 + 1)), (0, .ref (a)), (1, .int (y1_47)), (2, .int (y2_47)), (4, .int (y4_47))]) hx hb dL_isRota_156 hl (k := 3) rfl rfl (by decide) rfl (fun ls hl => ?_)
            refine lv_goto (tgt := 6) hx hb dL_isRota_159 (by decide) ?_
            refine W.widen (k := 0 + 68 * (i_6 + 1)) (n := 0 + 1128 * (i_6 + 1)) (by omega) (by omega) ?_
            exact ih_6 y1_47 y2_47 (y3_6 + 1) ((l_renderDay σ6 y3_6).2) (i_6 + 1) (by rw [hi_6, nI_1]) hlt_6 (by omega) hJ_18_0 _ _ hP hS ls (lv_sub hl [1, 2, 3, 0] rfl) hsp
          · replace hsp := (if_pos c_22).symm.trans hsp
            refine lv_aload_n hx hb dL_isRota_25 rfl (lv_at hl 0 rfl) ?_
            refine lv_iload_n hx hb dL_isRota_26 rfl (lv_at hl 3 rfl) ?_
            refine va_calli (vx_runSW (As := [.ref (a), .int (y3_6)]) (rest := []) ⟨hx, hb, hml, hown, hts⟩ (d_L_firstFreePitch l hl0 D Z k sz a ((l_renderDay σ6 y3_6).2) y3_6  (ex_firstFreePitch)) (vx_cwSW 2 hts gL_isRota_L_firstFreePitch rfl rfl rfl (by decide +kernel) ⟨Nat.le_of_ble_eq_true rfl, Nat.le_of_ble_eq_true rfl⟩) (ft_preM hEL hz hS hP) rfl rfl hl.1 rfl (lv_room (Nat.le_of_ble_eq_true rfl)) dL_isRota_27 ⟨(show 6 + 68 * i_6 + 2 ≤ 476 by omega), (show 756 + 1128 * i_6 + 12 ≤ 7896 by omega)⟩) hS (fun _ _ h => h) (fun _ h => h) (fun z u t H1 locs1 ht hvm hw hB hz1 hk1 hS1 => ?_)
            obtain rfl : z = (w_firstFreePitch ((l_renderDay σ6 y3_6).2) y3_6) := hw
            rw [ht] at hB
            have hP := hB
            have hS := hS1
            clear hS1
            generalize H1 = H at hP hS ⊢
            refine W.widen (k := 8 + 68 * i_6) (n := 768 + 1128 * i_6) (by omega) (by omega) ?_
            refine lv_aload_n hx hb dL_isRota_30 rfl (lv_at hl 0 rfl) ?_
            refine lv_iload_n hx hb dL_isRota_31 rfl (lv_at hl 3 rfl) ?_
            refine va_calli (va_runS (As := [.ref (a), .int (y3_6)]) (rest := [.int ((w_firstFreePitch ((l_renderDay σ6 y3_6).2) y3_6))]) ⟨hx, hb, hml, hown, hts⟩ (c_L_freeOn l hl0 D Z k sz a ((l_renderDay σ6 y3_6).2) y3_6 ) (va_cwS 2 hts gL_isRota_L_freeOn rfl rfl rfl (by decide +kernel) ⟨Nat.le_of_ble_eq_true rfl, Nat.le_of_ble_eq_true rfl⟩) (ft_preM hEL hz hS hP) rfl rfl hl.1 rfl (lv_room (Nat.le_of_ble_eq_true rfl)) dL_isRota_32 ⟨(show 8 + 68 * i_6 + 15 ≤ 476 by omega), (show 768 + 1128 * i_6 + 90 ≤ 7896 by omega)⟩) hS (fun _ _ h => h) (fun _ h => h) (fun z u t H1 locs1 ht hvm hw hB hz1 hk1 hS1 => ?_)
            obtain rfl : z = (s_L_freeOn ((l_renderDay σ6 y3_6).2) y3_6) := hw
            rw [ht] at hB
            have hP := hB
            have hS := hS1
            clear hS1
            generalize H1 = H at hP hS ⊢
            refine W.widen (k := 23 + 68 * i_6) (n := 858 + 1128 * i_6) (by omega) (by omega) ?_
            refine lv_icmp_ne (tgt := 42) hx hb dL_isRota_35 (by decide) (fun c_35 => ?_) (fun c_35 => ?_)
            · replace hsp := (if_neg c_35).symm.trans hsp
              refine lv_iconst (v := 0) hx hb dL_isRota_42 (by decide) ?_
              refine lv_istore_n (lv' := [(2, .int (0)), (0, .ref (a)), (1, .int (y1_6)), (3, .int (y3_6))]) hx hb dL_isRota_43 rfl hl (by decide) rfl (fun ls hl => ?_)
              refine lv_iconst (v := 0) hx hb dL_isRota_44 (by decide) ?_
              refine lv_istore (lv' := [(4, .int (0)), (2, .int (0)), (0, .ref (a)), (1, .int (y1_6)), (3, .int (y3_6))]) hx hb dL_isRota_45 hl (by decide) rfl (fun ls hl => ?_)
              have loop_47 : ∀ (K : Int32 → Int32 → Int32 → (Int32 × ft_Sg)) (hKx : ∀ (y1_47 : Int32) (y2_47 : Int32) (y4_47 : Int32) (i_47 : Nat) (hi_47 : y4_47 = nI i_47) (hm_47 : i_47 ≤ tn 5) (hv_47 : ¬ y2_47 = 0 → p_renderDay σ6 y3_6 = 5) (H : Heap) (locs : List Loc) (hP : ft_LW D k Z sz a ((l_renderDay σ6 y3_6).2) H) (hS : va_S (ft_AL sz) s.heap H locs) (ls : Array Slot) (hl : lv_has ls 7 [(0, .ref (a)), (1, .int (y1_47)), (2, .int (y2_47)), (3, .int (y3_6)), (4, .int (y4_47))]) (hsp : K y1_47 y2_47 y4_47 = s_L_isRota σ), W p l e (headSpec wsL_isRota ({ frames := 10, cells := 476, slots := 7896, locals := 247 })).room s m ([.ref a] : List Value).toArray below meth c H locs (23 + 68 * i_6 + 45) (858 + 1128 * i_6 + 270) (MQ below (ft_QJ J D k Z sz a (s_L_isRota σ)) ([.ref a] : List Value).toArray s 476 7896 (ft_AL sz)) (F0 m 156 ls [])) (n_47 : Nat), ∀ (y1_47 : Int32) (y2_47 : Int32) (y4_47 : Int32) (i_47 : Nat) (hi_47 : y4_47 = nI i_47) (hm_47 : i_47 ≤ tn 5) (hn_47 : tn 5 < n_47 + i_47) (hv_47 : ¬ y2_47 = 0 → p_renderDay σ6 y3_6 = 5) (H : Heap) (locs : List Loc) (hP : ft_LW D k Z sz a ((l_renderDay σ6 y3_6).2) H) (hS : va_S (ft_AL sz) s.heap H locs) (ls : Array Slot) (hl : lv_has ls 7 [(0, .ref (a)), (1, .int (y1_47)), (2, .int (y2_47)), (3, .int (y3_6)), (4, .int (y4_47))]) (hsp : s_L_isRota_L47 σ y1_6 y2_6 y3_6 σ6 K n_47 y1_47 y2_47 y4_47 = s_L_isRota σ), W p l e (headSpec wsL_isRota ({ frames := 10, cells := 476, slots := 7896, locals := 247 })).room s m ([.ref a] : List Value).toArray below meth c H locs (23 + 68 * i_6 + 9 * i_47) (858 + 1128 * i_6 + 54 * i_47) (MQ below (ft_QJ J D k Z sz a (s_L_isRota σ)) ([.ref a] : List Value).toArray s 476 7896 (ft_AL sz)) (F0 m 47 ls []) := by
                intro K hKx n_47
                induction n_47 with
                | zero => intro y1_47 y2_47 y4_47 i_47 hi_47 hm_47 hn_47; exact absurd hn_47 (by omega)
                | succ n ih_47 =>
                  intro y1_47 y2_47 y4_47 i_47 hi_47 hm_47 hn_47 hv_47 H locs hP hS ls hl hsp
                  rw [s_L_isRota_L47] at hsp
                  have hm5_47 : i_47 ≤ 5 := hm_47
                  refine lv_iload_n hx hb dL_isRota_47 rfl (lv_at hl 2 rfl) ?_
                  refine lv_if_eq (tgt := 156) hx hb dL_isRota_48 (by decide) (fun c_48 => ?_) (fun c_48 => ?_)
                  · replace hsp := (if_pos c_48).symm.trans hsp
                    refine W.widen (k := 23 + 68 * i_6 + 45) (n := 858 + 1128 * i_6 + 270) (by omega) (by omega) ?_
                    exact hKx y1_47 y2_47 y4_47 i_47 hi_47 hm_47 (hv_47) _ _ hP hS ls (lv_sub hl [0, 1, 2, 3, 4] rfl) hsp
                  · replace hsp := (if_neg c_48).symm.trans hsp
                    refine lv_iload hx hb dL_isRota_51 (lv_at hl 4 rfl) ?_
                    refine lv_iconst (v := 5) hx hb dL_isRota_53 (by decide) ?_
                    refine lv_icmp_ge (tgt := 156) hx hb dL_isRota_54 (by decide) (fun c_54 => ?_) (fun c_54 => ?_)
                    · replace hsp := (if_pos c_54).symm.trans hsp
                      refine W.widen (k := 23 + 68 * i_6 + 45) (n := 858 + 1128 * i_6 + 270) (by omega) (by omega) ?_
                      exact hKx y1_47 y2_47 y4_47 i_47 hi_47 hm_47 (hv_47) _ _ hP hS ls (lv_sub hl [0, 1, 2, 3, 4] rfl) hsp
                    · replace hsp := (if_neg c_54).symm.trans hsp
                      have hlt_47 := ft_step hi_47 hm_47 c_54
                      have hl5_47 : i_47 + 1 ≤ 5 := hlt_47
                      refine lv_aload_n hx hb dL_isRota_57 rfl (lv_at hl 0 rfl) ?_
                      refine lv_iload hx hb dL_isRota_58 (lv_at hl 4 rfl) ?_
                      refine lv_iload_n hx hb dL_isRota_60 rfl (lv_at hl 3 rfl) ?_
                      refine va_calli (vx_runSW (As := [.ref (a), .int (y4_47), .int (y3_6)]) (rest := []) ⟨hx, hb, hml, hown, hts⟩ (d_L_truckAt l hl0 D Z k sz a ((l_renderDay σ6 y3_6).2) y4_47 y3_6  (ex_truckAt)) (vx_cwSW 3 hts gL_isRota_L_truckAt rfl rfl rfl (by decide +kernel) ⟨Nat.le_of_ble_eq_true rfl, Nat.le_of_ble_eq_true rfl⟩) (ft_preM hEL hz hS hP) rfl rfl hl.1 rfl (lv_room (Nat.le_of_ble_eq_true rfl)) dL_isRota_61 ⟨(show 23 + 68 * i_6 + 9 * i_47 + 3 ≤ 476 by omega), (show 858 + 1128 * i_6 + 54 * i_47 + 18 ≤ 7896 by omega)⟩) hS (fun _ _ h => h) (fun _ h => h) (fun z u t H1 locs1 ht hvm hw hB hz1 hk1 hS1 => ?_)
                      obtain rfl : z = (w_truckAt ((l_renderDay σ6 y3_6).2) y4_47 y3_6) := hw
                      rw [ht] at hB
                      have hP := hB
                      have hS := hS1
                      clear hS1
                      generalize H1 = H at hP hS ⊢
                      refine W.widen (k := 26 + 68 * i_6 + 9 * i_47) (n := 876 + 1128 * i_6 + 54 * i_47) (by omega) (by omega) ?_
                      refine lv_istore (lv' := [(5, .int ((w_truckAt ((l_renderDay σ6 y3_6).2) y4_47 y3_6))), (0, .ref (a)), (1, .int (y1_47)), (2, .int (y2_47)), (3, .int (y3_6)), (4, .int (y4_47))]) hx hb dL_isRota_64 hl (by decide) rfl (fun ls hl => ?_)
                      refine lv_iload_n hx hb dL_isRota_66 rfl (lv_at hl 2 rfl) ?_
                      refine lv_iload hx hb dL_isRota_67 (lv_at hl 0 rfl) ?_
                      refine lv_sipush (v := (-1000)) hx hb dL_isRota_69 (by decide) ?_
                      refine lv_icmp_ne (tgt := 79) hx hb dL_isRota_72 (by decide) (fun c_72 => ?_) (fun c_72 => ?_)
                      · replace hsp := (if_neg c_72).symm.trans hsp
                        refine lv_iconst (v := 1) hx hb dL_isRota_79 (by decide) ?_
                        refine lv_iadd hx hb dL_isRota_80 ?_
                        refine lv_istore_n (lv' := [(1, .int (y1_47 + 1)), (5, .int ((w_truckAt ((l_renderDay σ6 y3_6).2) y4_47 y3_6))), (0, .ref (a)), (2, .int (y2_47)), (3, .int (y3_6)), (4, .int (y4_47))]) hx hb dL_isRota_81 rfl hl (by decide) rfl (fun ls hl => ?_)
                        refine lv_iload hx hb dL_isRota_82 (lv_at hl 1 rfl) ?_
                        refine lv_sipush (v := (-1000)) hx hb dL_isRota_84 (by decide) ?_
                        refine lv_icmp_ne (tgt := 95) hx hb dL_isRota_87 (by decide) (fun c_87 => ?_) (fun c_87 => ?_)
                        · replace hsp := (if_neg c_87).symm.trans hsp
                          refine lv_bipush (v := 48) hx hb dL_isRota_95 (by decide) ?_
                          refine lv_iload hx hb dL_isRota_97 (lv_at hl 1 rfl) ?_
                          refine lv_iadd hx hb dL_isRota_99 ?_
                          refine lv_i2c (v := ((48 + (w_truckAt ((l_renderDay σ6 y3_6).2) y4_47 y3_6)).toUInt32 % 65536).toInt32) hx hb dL_isRota_100 rfl ?_
                          refine lv_istore (lv' := [(6, .int (((48 + (w_truckAt ((l_renderDay σ6 y3_6).2) y4_47 y3_6)).toUInt32 % 65536).toInt32)), (1, .int (y1_47 + 1)), (5, .int ((w_truckAt ((l_renderDay σ6 y3_6).2) y4_47 y3_6))), (0, .ref (a)), (2, .int (y2_47)), (3, .int (y3_6)), (4, .int (y4_47))]) hx hb dL_isRota_101 hl (by decide) rfl (fun ls hl => ?_)
                          refine lv_aload_n hx hb dL_isRota_103 rfl (lv_at hl 3 rfl) ?_
                          refine lv_iload hx hb dL_isRota_104 (lv_at hl 6 rfl) ?_
                          refine va_calli (va_runV (As := [.int (y4_47)]) (rest := []) ⟨hx, hb, hml, hown, hts⟩ (ft_noX (cl_outputAt l hl0 D Z k sz a ((l_renderDay σ6 y3_6).2) y4_47 (ft_ok1c (hJ.ok1 _ hJ_18_0)).1 (ft_ok1c (hJ.ok1 _ hJ_18_0)).2) (hJ.o_outputAt _ _ _ i_47 hj_6 (ft_nw hi_6 hl5_6) (hv_47 (by assumption)) hi_47 hl5_47)) (cwV 1 hts gL_isRota_X7_outputAt rfl rfl rfl (by decide +kernel) ⟨Nat.le_of_ble_eq_true rfl, Nat.le_of_ble_eq_true rfl⟩) (ft_preL hE hz hS hP) rfl rfl hl.1 rfl (lv_room (Nat.le_of_ble_eq_true rfl)) dL_isRota_106 ⟨(show 26 + 68 * i_6 + 9 * i_47 + 1 ≤ 476 by omega), (show 876 + 1128 * i_6 + 54 * i_47 + 6 ≤ 7896 by omega)⟩) hS (fun _ _ h => h) (fun _ h => h) (fun z u t H1 locs1 ht hvm hw hB hz1 hk1 hS1 => ?_)
                          obtain rfl : z = (p_outputAt ((l_renderDay σ6 y3_6).2) y4_47) := hw
                          rw [ht] at hB
                          have hP := hB
                          have hS := hS1
                          clear hS1
                          generalize H1 = H at hP hS ⊢
                          refine W.widen (k := 27 + 68 * i_6 + 9 * i_47) (n := 882 + 1128 * i_6 + 54 * i_47) (by omega) (by omega) ?_
                          refine lv_iload hx hb dL_isRota_109 (lv_at hl 0 rfl) ?_
                          refine lv_icmp_ne (tgt := 148) hx hb dL_isRota_111 (by decide) (fun c_111 => ?_) (fun c_111 => ?_)
                          · replace hsp := (if_neg c_111).symm.trans hsp
                            refine lv_iconst (v := 0) hx hb dL_isRota_148 (by decide) ?_
                            refine lv_istore_n (lv' := [(2, .int (0)), (6, .int (((48 + (w_truckAt ((l_renderDay σ6 y3_6).2) y4_47 y3_6)).toUInt32 % 65536).toInt32)), (1, .int (y1_47 + 1)), (5, .int ((w_truckAt ((l_renderDay σ6 y3_6).2) y4_47 y3_6))), (0, .ref (a)), (3, .int (y3_6)), (4, .int (y4_47))]) hx hb dL_isRota_149 rfl hl (by decide) rfl (fun ls hl => ?_)
                            refine lv_iinc (v := y4_47 + 1) (lv' := [(4, .int (y4_47 + 1)), (2, .int (0)), (6, .int (((48 + (w_truckAt ((l_renderDay σ6 y3_6).2) y4_47 y3_6)).toUInt32 % 65536).toInt32)), (1, .int (y1_47 + 1)), (5, .int ((w_truckAt ((l_renderDay σ6 y3_6).2) y4_47 y3_6))), (0, .ref (a)), (3, .int (y3_6))]) hx hb dL_isRota_150 hl (k := 6) rfl rfl (by decide) rfl (fun ls hl => ?_)
                            refine lv_goto (tgt := 47) hx hb dL_isRota_153 (by decide) ?_
                            refine W.widen (k := 23 + 68 * i_6 + 9 * (i_47 + 1)) (n := 858 + 1128 * i_6 + 54 * (i_47 + 1)) (by omega) (by omega) ?_
                            exact ih_47 (y1_47 + 1) 0 (y4_47 + 1) (i_47 + 1) (by rw [hi_47, nI_1]) hlt_47 (by omega) (by first | exact fun h => absurd rfl h | exact fun _ => hv_47 (by assumption)) _ _ hP hS ls (lv_sub hl [5, 3, 1, 6, 0] rfl) hsp
                          · replace hsp := (if_pos c_111).symm.trans hsp
                            refine lv_iload hx hb dL_isRota_114 (lv_at hl 2 rfl) ?_
                            refine lv_sipush (v := (-1000)) hx hb dL_isRota_116 (by decide) ?_
                            refine lv_icmp_eq (tgt := 144) hx hb dL_isRota_119 (by decide) (fun c_119 => ?_) (fun c_119 => ?_)
                            · replace hsp := (if_pos c_119).symm.trans hsp
                              refine lv_iconst (v := 1) hx hb dL_isRota_144 (by decide) ?_
                              refine lv_goto (tgt := 149) hx hb dL_isRota_145 (by decide) ?_
                              refine lv_istore_n (lv' := [(2, .int (1)), (6, .int (((48 + (w_truckAt ((l_renderDay σ6 y3_6).2) y4_47 y3_6)).toUInt32 % 65536).toInt32)), (1, .int (y1_47 + 1)), (5, .int ((w_truckAt ((l_renderDay σ6 y3_6).2) y4_47 y3_6))), (0, .ref (a)), (3, .int (y3_6)), (4, .int (y4_47))]) hx hb dL_isRota_149 rfl hl (by decide) rfl (fun ls hl => ?_)
                              refine lv_iinc (v := y4_47 + 1) (lv' := [(4, .int (y4_47 + 1)), (2, .int (1)), (6, .int (((48 + (w_truckAt ((l_renderDay σ6 y3_6).2) y4_47 y3_6)).toUInt32 % 65536).toInt32)), (1, .int (y1_47 + 1)), (5, .int ((w_truckAt ((l_renderDay σ6 y3_6).2) y4_47 y3_6))), (0, .ref (a)), (3, .int (y3_6))]) hx hb dL_isRota_150 hl (k := 6) rfl rfl (by decide) rfl (fun ls hl => ?_)
                              refine lv_goto (tgt := 47) hx hb dL_isRota_153 (by decide) ?_
                              refine W.widen (k := 23 + 68 * i_6 + 9 * (i_47 + 1)) (n := 858 + 1128 * i_6 + 54 * (i_47 + 1)) (by omega) (by omega) ?_
                              exact ih_47 (y1_47 + 1) 1 (y4_47 + 1) (i_47 + 1) (by rw [hi_47, nI_1]) hlt_47 (by omega) (by first | exact fun h => absurd rfl h | exact fun _ => hv_47 (by assumption)) _ _ hP hS ls (lv_sub hl [5, 3, 1, 6, 0] rfl) hsp
                            · replace hsp := (if_neg c_119).symm.trans hsp
                              refine lv_aload_n hx hb dL_isRota_122 rfl (lv_at hl 3 rfl) ?_
                              refine lv_iload hx hb dL_isRota_123 (lv_at hl 2 rfl) ?_
                              refine lv_iload_n hx hb dL_isRota_125 rfl (lv_at hl 5 rfl) ?_
                              refine va_calli (va_runV (As := [.int ((w_truckAt ((l_renderDay σ6 y3_6).2) y4_47 y3_6)), .int (y3_6)]) (rest := []) ⟨hx, hb, hml, hown, hts⟩ (ft_noX (cl_pitchOf l hl0 D Z k sz a ((l_renderDay σ6 y3_6).2) (w_truckAt ((l_renderDay σ6 y3_6).2) y4_47 y3_6) y3_6 ) (hJ.o_pitchOf _ _ _ hJ_18_0 (by assumption))) (cwV 2 hts gL_isRota_X7_pitchOf rfl rfl rfl (by decide +kernel) ⟨Nat.le_of_ble_eq_true rfl, Nat.le_of_ble_eq_true rfl⟩) (ft_preL hE hz hS hP) rfl rfl hl.1 rfl (lv_room (Nat.le_of_ble_eq_true rfl)) dL_isRota_126 ⟨(show 27 + 68 * i_6 + 9 * i_47 + 3 ≤ 476 by omega), (show 882 + 1128 * i_6 + 54 * i_47 + 18 ≤ 7896 by omega)⟩) hS (fun _ _ h => h) (fun _ h => h) (fun z u t H1 locs1 ht hvm hw hB hz1 hk1 hS1 => ?_)
                              obtain rfl : z = (p_pitchOf ((l_renderDay σ6 y3_6).2) (w_truckAt ((l_renderDay σ6 y3_6).2) y4_47 y3_6) y3_6) := hw
                              rw [ht] at hB
                              have hP := hB
                              have hS := hS1
                              clear hS1
                              generalize H1 = H at hP hS ⊢
                              refine W.widen (k := 30 + 68 * i_6 + 9 * i_47) (n := 900 + 1128 * i_6 + 54 * i_47) (by omega) (by omega) ?_
                              refine lv_iload hx hb dL_isRota_129 (lv_at hl 6 rfl) ?_
                              refine lv_icmp_ne (tgt := 148) hx hb dL_isRota_131 (by decide) (fun c_131 => ?_) (fun c_131 => ?_)
                              · replace hsp := (if_neg c_131).symm.trans hsp
                                refine lv_iconst (v := 0) hx hb dL_isRota_148 (by decide) ?_
                                refine lv_istore_n (lv' := [(2, .int (0)), (6, .int (((48 + (w_truckAt ((l_renderDay σ6 y3_6).2) y4_47 y3_6)).toUInt32 % 65536).toInt32)), (1, .int (y1_47 + 1)), (5, .int ((w_truckAt ((l_renderDay σ6 y3_6).2) y4_47 y3_6))), (0, .ref (a)), (3, .int (y3_6)), (4, .int (y4_47))]) hx hb dL_isRota_149 rfl hl (by decide) rfl (fun ls hl => ?_)
                                refine lv_iinc (v := y4_47 + 1) (lv' := [(4, .int (y4_47 + 1)), (2, .int (0)), (6, .int (((48 + (w_truckAt ((l_renderDay σ6 y3_6).2) y4_47 y3_6)).toUInt32 % 65536).toInt32)), (1, .int (y1_47 + 1)), (5, .int ((w_truckAt ((l_renderDay σ6 y3_6).2) y4_47 y3_6))), (0, .ref (a)), (3, .int (y3_6))]) hx hb dL_isRota_150 hl (k := 6) rfl rfl (by decide) rfl (fun ls hl => ?_)
                                refine lv_goto (tgt := 47) hx hb dL_isRota_153 (by decide) ?_
                                refine W.widen (k := 23 + 68 * i_6 + 9 * (i_47 + 1)) (n := 858 + 1128 * i_6 + 54 * (i_47 + 1)) (by omega) (by omega) ?_
                                exact ih_47 (y1_47 + 1) 0 (y4_47 + 1) (i_47 + 1) (by rw [hi_47, nI_1]) hlt_47 (by omega) (by first | exact fun h => absurd rfl h | exact fun _ => hv_47 (by assumption)) _ _ hP hS ls (lv_sub hl [5, 3, 1, 6, 0] rfl) hsp
                              · replace hsp := (if_pos c_131).symm.trans hsp
                                refine lv_aload_n hx hb dL_isRota_134 rfl (lv_at hl 3 rfl) ?_
                                refine lv_iload hx hb dL_isRota_135 (lv_at hl 2 rfl) ?_
                                refine lv_iload_n hx hb dL_isRota_137 rfl (lv_at hl 5 rfl) ?_
                                refine va_calli (va_runV (As := [.int ((w_truckAt ((l_renderDay σ6 y3_6).2) y4_47 y3_6)), .int (y3_6)]) (rest := []) ⟨hx, hb, hml, hown, hts⟩ (ft_noX (cl_hasPermit l hl0 D Z k sz a ((l_renderDay σ6 y3_6).2) (w_truckAt ((l_renderDay σ6 y3_6).2) y4_47 y3_6) y3_6 ) (ok_hasPermit (hJ.o_tA _ _ _ hJ_18_0 (by assumption)) (ft_nw hi_6 hl5_6))) (cwV 2 hts gL_isRota_X7_hasPermit rfl rfl rfl (by decide +kernel) ⟨Nat.le_of_ble_eq_true rfl, Nat.le_of_ble_eq_true rfl⟩) (ft_preL hE hz hS hP) rfl rfl hl.1 rfl (lv_room (Nat.le_of_ble_eq_true rfl)) dL_isRota_138 ⟨(show 30 + 68 * i_6 + 9 * i_47 + 2 ≤ 476 by omega), (show 900 + 1128 * i_6 + 54 * i_47 + 12 ≤ 7896 by omega)⟩) hS (fun _ _ h => h) (fun _ h => h) (fun z u t H1 locs1 ht hvm hw hB hz1 hk1 hS1 => ?_)
                                obtain rfl : z = (p_hasPermit ((l_renderDay σ6 y3_6).2) (w_truckAt ((l_renderDay σ6 y3_6).2) y4_47 y3_6) y3_6) := hw
                                rw [ht] at hB
                                have hP := hB
                                have hS := hS1
                                clear hS1
                                generalize H1 = H at hP hS ⊢
                                refine W.widen (k := 32 + 68 * i_6 + 9 * i_47) (n := 912 + 1128 * i_6 + 54 * i_47) (by omega) (by omega) ?_
                                refine lv_if_eq (tgt := 148) hx hb dL_isRota_141 (by decide) (fun c_141 => ?_) (fun c_141 => ?_)
                                · replace hsp := (if_pos c_141).symm.trans hsp
                                  refine lv_iconst (v := 0) hx hb dL_isRota_148 (by decide) ?_
                                  refine lv_istore_n (lv' := [(2, .int (0)), (6, .int (((48 + (w_truckAt ((l_renderDay σ6 y3_6).2) y4_47 y3_6)).toUInt32 % 65536).toInt32)), (1, .int (y1_47 + 1)), (5, .int ((w_truckAt ((l_renderDay σ6 y3_6).2) y4_47 y3_6))), (0, .ref (a)), (3, .int (y3_6)), (4, .int (y4_47))]) hx hb dL_isRota_149 rfl hl (by decide) rfl (fun ls hl => ?_)
                                  refine lv_iinc (v := y4_47 + 1) (lv' := [(4, .int (y4_47 + 1)), (2, .int (0)), (6, .int (((48 + (w_truckAt ((l_renderDay σ6 y3_6).2) y4_47 y3_6)).toUInt32 % 65536).toInt32)), (1, .int (y1_47 + 1)), (5, .int ((w_truckAt ((l_renderDay σ6 y3_6).2) y4_47 y3_6))), (0, .ref (a)), (3, .int (y3_6))]) hx hb dL_isRota_150 hl (k := 6) rfl rfl (by decide) rfl (fun ls hl => ?_)
                                  refine lv_goto (tgt := 47) hx hb dL_isRota_153 (by decide) ?_
                                  refine W.widen (k := 23 + 68 * i_6 + 9 * (i_47 + 1)) (n := 858 + 1128 * i_6 + 54 * (i_47 + 1)) (by omega) (by omega) ?_
                                  exact ih_47 (y1_47 + 1) 0 (y4_47 + 1) (i_47 + 1) (by rw [hi_47, nI_1]) hlt_47 (by omega) (by first | exact fun h => absurd rfl h | exact fun _ => hv_47 (by assumption)) _ _ hP hS ls (lv_sub hl [5, 3, 1, 6, 0] rfl) hsp
                                · replace hsp := (if_neg c_141).symm.trans hsp
                                  refine lv_iconst (v := 1) hx hb dL_isRota_144 (by decide) ?_
                                  refine lv_goto (tgt := 149) hx hb dL_isRota_145 (by decide) ?_
                                  refine lv_istore_n (lv' := [(2, .int (1)), (6, .int (((48 + (w_truckAt ((l_renderDay σ6 y3_6).2) y4_47 y3_6)).toUInt32 % 65536).toInt32)), (1, .int (y1_47 + 1)), (5, .int ((w_truckAt ((l_renderDay σ6 y3_6).2) y4_47 y3_6))), (0, .ref (a)), (3, .int (y3_6)), (4, .int (y4_47))]) hx hb dL_isRota_149 rfl hl (by decide) rfl (fun ls hl => ?_)
                                  refine lv_iinc (v := y4_47 + 1) (lv' := [(4, .int (y4_47 + 1)), (2, .int (1)), (6, .int (((48 + (w_truckAt ((l_renderDay σ6 y3_6).2) y4_47 y3_6)).toUInt32 % 65536).toInt32)), (1, .int (y1_47 + 1)), (5, .int ((w_truckAt ((l_renderDay σ6 y3_6).2) y4_47 y3_6))), (0, .ref (a)), (3, .int (y3_6))]) hx hb dL_isRota_150 hl (k := 6) rfl rfl (by decide) rfl (fun ls hl => ?_)
                                  refine lv_goto (tgt := 47) hx hb dL_isRota_153 (by decide) ?_
                                  refine W.widen (k := 23 + 68 * i_6 + 9 * (i_47 + 1)) (n := 858 + 1128 * i_6 + 54 * (i_47 + 1)) (by omega) (by omega) ?_
                                  exact ih_47 (y1_47 + 1) 1 (y4_47 + 1) (i_47 + 1) (by rw [hi_47, nI_1]) hlt_47 (by omega) (by first | exact fun h => absurd rfl h | exact fun _ => hv_47 (by assumption)) _ _ hP hS ls (lv_sub hl [5, 3, 1, 6, 0] rfl) hsp
                        · replace hsp := (if_pos c_87).symm.trans hsp
                          refine lv_bipush (v := 45) hx hb dL_isRota_90 (by decide) ?_
                          refine lv_goto (tgt := 101) hx hb dL_isRota_92 (by decide) ?_
                          refine lv_istore (lv' := [(6, .int (45)), (1, .int (y1_47 + 1)), (5, .int ((w_truckAt ((l_renderDay σ6 y3_6).2) y4_47 y3_6))), (0, .ref (a)), (2, .int (y2_47)), (3, .int (y3_6)), (4, .int (y4_47))]) hx hb dL_isRota_101 hl (by decide) rfl (fun ls hl => ?_)
                          refine lv_aload_n hx hb dL_isRota_103 rfl (lv_at hl 3 rfl) ?_
                          refine lv_iload hx hb dL_isRota_104 (lv_at hl 6 rfl) ?_
                          refine va_calli (va_runV (As := [.int (y4_47)]) (rest := []) ⟨hx, hb, hml, hown, hts⟩ (ft_noX (cl_outputAt l hl0 D Z k sz a ((l_renderDay σ6 y3_6).2) y4_47 (ft_ok1c (hJ.ok1 _ hJ_18_0)).1 (ft_ok1c (hJ.ok1 _ hJ_18_0)).2) (hJ.o_outputAt _ _ _ i_47 hj_6 (ft_nw hi_6 hl5_6) (hv_47 (by assumption)) hi_47 hl5_47)) (cwV 1 hts gL_isRota_X7_outputAt rfl rfl rfl (by decide +kernel) ⟨Nat.le_of_ble_eq_true rfl, Nat.le_of_ble_eq_true rfl⟩) (ft_preL hE hz hS hP) rfl rfl hl.1 rfl (lv_room (Nat.le_of_ble_eq_true rfl)) dL_isRota_106 ⟨(show 26 + 68 * i_6 + 9 * i_47 + 1 ≤ 476 by omega), (show 876 + 1128 * i_6 + 54 * i_47 + 6 ≤ 7896 by omega)⟩) hS (fun _ _ h => h) (fun _ h => h) (fun z u t H1 locs1 ht hvm hw hB hz1 hk1 hS1 => ?_)
                          obtain rfl : z = (p_outputAt ((l_renderDay σ6 y3_6).2) y4_47) := hw
                          rw [ht] at hB
                          have hP := hB
                          have hS := hS1
                          clear hS1
                          generalize H1 = H at hP hS ⊢
                          refine W.widen (k := 27 + 68 * i_6 + 9 * i_47) (n := 882 + 1128 * i_6 + 54 * i_47) (by omega) (by omega) ?_
                          refine lv_iload hx hb dL_isRota_109 (lv_at hl 0 rfl) ?_
                          refine lv_icmp_ne (tgt := 148) hx hb dL_isRota_111 (by decide) (fun c_111 => ?_) (fun c_111 => ?_)
                          · replace hsp := (if_neg c_111).symm.trans hsp
                            refine lv_iconst (v := 0) hx hb dL_isRota_148 (by decide) ?_
                            refine lv_istore_n (lv' := [(2, .int (0)), (6, .int (45)), (1, .int (y1_47 + 1)), (5, .int ((w_truckAt ((l_renderDay σ6 y3_6).2) y4_47 y3_6))), (0, .ref (a)), (3, .int (y3_6)), (4, .int (y4_47))]) hx hb dL_isRota_149 rfl hl (by decide) rfl (fun ls hl => ?_)
                            refine lv_iinc (v := y4_47 + 1) (lv' := [(4, .int (y4_47 + 1)), (2, .int (0)), (6, .int (45)), (1, .int (y1_47 + 1)), (5, .int ((w_truckAt ((l_renderDay σ6 y3_6).2) y4_47 y3_6))), (0, .ref (a)), (3, .int (y3_6))]) hx hb dL_isRota_150 hl (k := 6) rfl rfl (by decide) rfl (fun ls hl => ?_)
                            refine lv_goto (tgt := 47) hx hb dL_isRota_153 (by decide) ?_
                            refine W.widen (k := 23 + 68 * i_6 + 9 * (i_47 + 1)) (n := 858 + 1128 * i_6 + 54 * (i_47 + 1)) (by omega) (by omega) ?_
                            exact ih_47 (y1_47 + 1) 0 (y4_47 + 1) (i_47 + 1) (by rw [hi_47, nI_1]) hlt_47 (by omega) (by first | exact fun h => absurd rfl h | exact fun _ => hv_47 (by assumption)) _ _ hP hS ls (lv_sub hl [5, 3, 1, 6, 0] rfl) hsp
                          · replace hsp := (if_pos c_111).symm.trans hsp
                            refine lv_iload hx hb dL_isRota_114 (lv_at hl 2 rfl) ?_
                            refine lv_sipush (v := (-1000)) hx hb dL_isRota_116 (by decide) ?_
                            refine lv_icmp_eq (tgt := 144) hx hb dL_isRota_119 (by decide) (fun c_119 => ?_) (fun c_119 => ?_)
                            · replace hsp := (if_pos c_119).symm.trans hsp
                              refine lv_iconst (v := 1) hx hb dL_isRota_144 (by decide) ?_
                              refine lv_goto (tgt := 149) hx hb dL_isRota_145 (by decide) ?_
                              refine lv_istore_n (lv' := [(2, .int (1)), (6, .int (45)), (1, .int (y1_47 + 1)), (5, .int ((w_truckAt ((l_renderDay σ6 y3_6).2) y4_47 y3_6))), (0, .ref (a)), (3, .int (y3_6)), (4, .int (y4_47))]) hx hb dL_isRota_149 rfl hl (by decide) rfl (fun ls hl => ?_)
                              refine lv_iinc (v := y4_47 + 1) (lv' := [(4, .int (y4_47 + 1)), (2, .int (1)), (6, .int (45)), (1, .int (y1_47 + 1)), (5, .int ((w_truckAt ((l_renderDay σ6 y3_6).2) y4_47 y3_6))), (0, .ref (a)), (3, .int (y3_6))]) hx hb dL_isRota_150 hl (k := 6) rfl rfl (by decide) rfl (fun ls hl => ?_)
                              refine lv_goto (tgt := 47) hx hb dL_isRota_153 (by decide) ?_
                              refine W.widen (k := 23 + 68 * i_6 + 9 * (i_47 + 1)) (n := 858 + 1128 * i_6 + 54 * (i_47 + 1)) (by omega) (by omega) ?_
                              exact ih_47 (y1_47 + 1) 1 (y4_47 + 1) (i_47 + 1) (by rw [hi_47, nI_1]) hlt_47 (by omega) (by first | exact fun h => absurd rfl h | exact fun _ => hv_47 (by assumption)) _ _ hP hS ls (lv_sub hl [5, 3, 1, 6, 0] rfl) hsp
                            · replace hsp := (if_neg c_119).symm.trans hsp
                              refine lv_aload_n hx hb dL_isRota_122 rfl (lv_at hl 3 rfl) ?_
                              refine lv_iload hx hb dL_isRota_123 (lv_at hl 2 rfl) ?_
                              refine lv_iload_n hx hb dL_isRota_125 rfl (lv_at hl 5 rfl) ?_
                              refine va_calli (va_runV (As := [.int ((w_truckAt ((l_renderDay σ6 y3_6).2) y4_47 y3_6)), .int (y3_6)]) (rest := []) ⟨hx, hb, hml, hown, hts⟩ (ft_noX (cl_pitchOf l hl0 D Z k sz a ((l_renderDay σ6 y3_6).2) (w_truckAt ((l_renderDay σ6 y3_6).2) y4_47 y3_6) y3_6 ) (hJ.o_pitchOf _ _ _ hJ_18_0 (by assumption))) (cwV 2 hts gL_isRota_X7_pitchOf rfl rfl rfl (by decide +kernel) ⟨Nat.le_of_ble_eq_true rfl, Nat.le_of_ble_eq_true rfl⟩) (ft_preL hE hz hS hP) rfl rfl hl.1 rfl (lv_room (Nat.le_of_ble_eq_true rfl)) dL_isRota_126 ⟨(show 27 + 68 * i_6 + 9 * i_47 + 3 ≤ 476 by omega), (show 882 + 1128 * i_6 + 54 * i_47 + 18 ≤ 7896 by omega)⟩) hS (fun _ _ h => h) (fun _ h => h) (fun z u t H1 locs1 ht hvm hw hB hz1 hk1 hS1 => ?_)
                              obtain rfl : z = (p_pitchOf ((l_renderDay σ6 y3_6).2) (w_truckAt ((l_renderDay σ6 y3_6).2) y4_47 y3_6) y3_6) := hw
                              rw [ht] at hB
                              have hP := hB
                              have hS := hS1
                              clear hS1
                              generalize H1 = H at hP hS ⊢
                              refine W.widen (k := 30 + 68 * i_6 + 9 * i_47) (n := 900 + 1128 * i_6 + 54 * i_47) (by omega) (by omega) ?_
                              refine lv_iload hx hb dL_isRota_129 (lv_at hl 6 rfl) ?_
                              refine lv_icmp_ne (tgt := 148) hx hb dL_isRota_131 (by decide) (fun c_131 => ?_) (fun c_131 => ?_)
                              · replace hsp := (if_neg c_131).symm.trans hsp
                                refine lv_iconst (v := 0) hx hb dL_isRota_148 (by decide) ?_
                                refine lv_istore_n (lv' := [(2, .int (0)), (6, .int (45)), (1, .int (y1_47 + 1)), (5, .int ((w_truckAt ((l_renderDay σ6 y3_6).2) y4_47 y3_6))), (0, .ref (a)), (3, .int (y3_6)), (4, .int (y4_47))]) hx hb dL_isRota_149 rfl hl (by decide) rfl (fun ls hl => ?_)
                                refine lv_iinc (v := y4_47 + 1) (lv' := [(4, .int (y4_47 + 1)), (2, .int (0)), (6, .int (45)), (1, .int (y1_47 + 1)), (5, .int ((w_truckAt ((l_renderDay σ6 y3_6).2) y4_47 y3_6))), (0, .ref (a)), (3, .int (y3_6))]) hx hb dL_isRota_150 hl (k := 6) rfl rfl (by decide) rfl (fun ls hl => ?_)
                                refine lv_goto (tgt := 47) hx hb dL_isRota_153 (by decide) ?_
                                refine W.widen (k := 23 + 68 * i_6 + 9 * (i_47 + 1)) (n := 858 + 1128 * i_6 + 54 * (i_47 + 1)) (by omega) (by omega) ?_
                                exact ih_47 (y1_47 + 1) 0 (y4_47 + 1) (i_47 + 1) (by rw [hi_47, nI_1]) hlt_47 (by omega) (by first | exact fun h => absurd rfl h | exact fun _ => hv_47 (by assumption)) _ _ hP hS ls (lv_sub hl [5, 3, 1, 6, 0] rfl) hsp
                              · replace hsp := (if_pos c_131).symm.trans hsp
                                refine lv_aload_n hx hb dL_isRota_134 rfl (lv_at hl 3 rfl) ?_
                                refine lv_iload hx hb dL_isRota_135 (lv_at hl 2 rfl) ?_
                                refine lv_iload_n hx hb dL_isRota_137 rfl (lv_at hl 5 rfl) ?_
                                refine va_calli (va_runV (As := [.int ((w_truckAt ((l_renderDay σ6 y3_6).2) y4_47 y3_6)), .int (y3_6)]) (rest := []) ⟨hx, hb, hml, hown, hts⟩ (ft_noX (cl_hasPermit l hl0 D Z k sz a ((l_renderDay σ6 y3_6).2) (w_truckAt ((l_renderDay σ6 y3_6).2) y4_47 y3_6) y3_6 ) (ok_hasPermit (hJ.o_tA _ _ _ hJ_18_0 (by assumption)) (ft_nw hi_6 hl5_6))) (cwV 2 hts gL_isRota_X7_hasPermit rfl rfl rfl (by decide +kernel) ⟨Nat.le_of_ble_eq_true rfl, Nat.le_of_ble_eq_true rfl⟩) (ft_preL hE hz hS hP) rfl rfl hl.1 rfl (lv_room (Nat.le_of_ble_eq_true rfl)) dL_isRota_138 ⟨(show 30 + 68 * i_6 + 9 * i_47 + 2 ≤ 476 by omega), (show 900 + 1128 * i_6 + 54 * i_47 + 12 ≤ 7896 by omega)⟩) hS (fun _ _ h => h) (fun _ h => h) (fun z u t H1 locs1 ht hvm hw hB hz1 hk1 hS1 => ?_)
                                obtain rfl : z = (p_hasPermit ((l_renderDay σ6 y3_6).2) (w_truckAt ((l_renderDay σ6 y3_6).2) y4_47 y3_6) y3_6) := hw
                                rw [ht] at hB
                                have hP := hB
                                have hS := hS1
                                clear hS1
                                generalize H1 = H at hP hS ⊢
                                refine W.widen (k := 32 + 68 * i_6 + 9 * i_47) (n := 912 + 1128 * i_6 + 54 * i_47) (by omega) (by omega) ?_
                                refine lv_if_eq (tgt := 148) hx hb dL_isRota_141 (by decide) (fun c_141 => ?_) (fun c_141 => ?_)
                                · replace hsp := (if_pos c_141).symm.trans hsp
                                  refine lv_iconst (v := 0) hx hb dL_isRota_148 (by decide) ?_
                                  refine lv_istore_n (lv' := [(2, .int (0)), (6, .int (45)), (1, .int (y1_47 + 1)), (5, .int ((w_truckAt ((l_renderDay σ6 y3_6).2) y4_47 y3_6))), (0, .ref (a)), (3, .int (y3_6)), (4, .int (y4_47))]) hx hb dL_isRota_149 rfl hl (by decide) rfl (fun ls hl => ?_)
                                  refine lv_iinc (v := y4_47 + 1) (lv' := [(4, .int (y4_47 + 1)), (2, .int (0)), (6, .int (45)), (1, .int (y1_47 + 1)), (5, .int ((w_truckAt ((l_renderDay σ6 y3_6).2) y4_47 y3_6))), (0, .ref (a)), (3, .int (y3_6))]) hx hb dL_isRota_150 hl (k := 6) rfl rfl (by decide) rfl (fun ls hl => ?_)
                                  refine lv_goto (tgt := 47) hx hb dL_isRota_153 (by decide) ?_
                                  refine W.widen (k := 23 + 68 * i_6 + 9 * (i_47 + 1)) (n := 858 + 1128 * i_6 + 54 * (i_47 + 1)) (by omega) (by omega) ?_
                                  exact ih_47 (y1_47 + 1) 0 (y4_47 + 1) (i_47 + 1) (by rw [hi_47, nI_1]) hlt_47 (by omega) (by first | exact fun h => absurd rfl h | exact fun _ => hv_47 (by assumption)) _ _ hP hS ls (lv_sub hl [5, 3, 1, 6, 0] rfl) hsp
                                · replace hsp := (if_neg c_141).symm.trans hsp
                                  refine lv_iconst (v := 1) hx hb dL_isRota_144 (by decide) ?_
                                  refine lv_goto (tgt := 149) hx hb dL_isRota_145 (by decide) ?_
                                  refine lv_istore_n (lv' := [(2, .int (1)), (6, .int (45)), (1, .int (y1_47 + 1)), (5, .int ((w_truckAt ((l_renderDay σ6 y3_6).2) y4_47 y3_6))), (0, .ref (a)), (3, .int (y3_6)), (4, .int (y4_47))]) hx hb dL_isRota_149 rfl hl (by decide) rfl (fun ls hl => ?_)
                                  refine lv_iinc (v := y4_47 + 1) (lv' := [(4, .int (y4_47 + 1)), (2, .int (1)), (6, .int (45)), (1, .int (y1_47 + 1)), (5, .int ((w_truckAt ((l_renderDay σ6 y3_6).2) y4_47 y3_6))), (0, .ref (a)), (3, .int (y3_6))]) hx hb dL_isRota_150 hl (k := 6) rfl rfl (by decide) rfl (fun ls hl => ?_)
                                  refine lv_goto (tgt := 47) hx hb dL_isRota_153 (by decide) ?_
                                  refine W.widen (k := 23 + 68 * i_6 + 9 * (i_47 + 1)) (n := 858 + 1128 * i_6 + 54 * (i_47 + 1)) (by omega) (by omega) ?_
                                  exact ih_47 (y1_47 + 1) 1 (y4_47 + 1) (i_47 + 1) (by rw [hi_47, nI_1]) hlt_47 (by omega) (by first | exact fun h => absurd rfl h | exact fun _ => hv_47 (by assumption)) _ _ hP hS ls (lv_sub hl [5, 3, 1, 6, 0] rfl) hsp
                      · replace hsp := (if_pos c_72).symm.trans hsp
                        refine lv_iconst (v := 0) hx hb dL_isRota_75 (by decide) ?_
                        refine lv_goto (tgt := 80) hx hb dL_isRota_76 (by decide) ?_
                        refine lv_iadd hx hb dL_isRota_80 ?_
                        refine lv_istore_n (lv' := [(1, .int (y1_47 + 0)), (5, .int ((w_truckAt ((l_renderDay σ6 y3_6).2) y4_47 y3_6))), (0, .ref (a)), (2, .int (y2_47)), (3, .int (y3_6)), (4, .int (y4_47))]) hx hb dL_isRota_81 rfl hl (by decide) rfl (fun ls hl => ?_)
                        refine lv_iload hx hb dL_isRota_82 (lv_at hl 1 rfl) ?_
                        refine lv_sipush (v := (-1000)) hx hb dL_isRota_84 (by decide) ?_
                        refine lv_icmp_ne (tgt := 95) hx hb dL_isRota_87 (by decide) (fun c_87 => ?_) (fun c_87 => ?_)
                        · replace hsp := (if_neg c_87).symm.trans hsp
                          refine lv_bipush (v := 48) hx hb dL_isRota_95 (by decide) ?_
                          refine lv_iload hx hb dL_isRota_97 (lv_at hl 1 rfl) ?_
                          refine lv_iadd hx hb dL_isRota_99 ?_
                          refine lv_i2c (v := ((48 + (w_truckAt ((l_renderDay σ6 y3_6).2) y4_47 y3_6)).toUInt32 % 65536).toInt32) hx hb dL_isRota_100 rfl ?_
                          refine lv_istore (lv' := [(6, .int (((48 + (w_truckAt ((l_renderDay σ6 y3_6).2) y4_47 y3_6)).toUInt32 % 65536).toInt32)), (1, .int (y1_47 + 0)), (5, .int ((w_truckAt ((l_renderDay σ6 y3_6).2) y4_47 y3_6))), (0, .ref (a)), (2, .int (y2_47)), (3, .int (y3_6)), (4, .int (y4_47))]) hx hb dL_isRota_101 hl (by decide) rfl (fun ls hl => ?_)
                          refine lv_aload_n hx hb dL_isRota_103 rfl (lv_at hl 3 rfl) ?_
                          refine lv_iload hx hb dL_isRota_104 (lv_at hl 6 rfl) ?_
                          refine va_calli (va_runV (As := [.int (y4_47)]) (rest := []) ⟨hx, hb, hml, hown, hts⟩ (ft_noX (cl_outputAt l hl0 D Z k sz a ((l_renderDay σ6 y3_6).2) y4_47 (ft_ok1c (hJ.ok1 _ hJ_18_0)).1 (ft_ok1c (hJ.ok1 _ hJ_18_0)).2) (hJ.o_outputAt _ _ _ i_47 hj_6 (ft_nw hi_6 hl5_6) (hv_47 (by assumption)) hi_47 hl5_47)) (cwV 1 hts gL_isRota_X7_outputAt rfl rfl rfl (by decide +kernel) ⟨Nat.le_of_ble_eq_true rfl, Nat.le_of_ble_eq_true rfl⟩) (ft_preL hE hz hS hP) rfl rfl hl.1 rfl (lv_room (Nat.le_of_ble_eq_true rfl)) dL_isRota_106 ⟨(show 26 + 68 * i_6 + 9 * i_47 + 1 ≤ 476 by omega), (show 876 + 1128 * i_6 + 54 * i_47 + 6 ≤ 7896 by omega)⟩) hS (fun _ _ h => h) (fun _ h => h) (fun z u t H1 locs1 ht hvm hw hB hz1 hk1 hS1 => ?_)
                          obtain rfl : z = (p_outputAt ((l_renderDay σ6 y3_6).2) y4_47) := hw
                          rw [ht] at hB
                          have hP := hB
                          have hS := hS1
                          clear hS1
                          generalize H1 = H at hP hS ⊢
                          refine W.widen (k := 27 + 68 * i_6 + 9 * i_47) (n := 882 + 1128 * i_6 + 54 * i_47) (by omega) (by omega) ?_
                          refine lv_iload hx hb dL_isRota_109 (lv_at hl 0 rfl) ?_
                          refine lv_icmp_ne (tgt := 148) hx hb dL_isRota_111 (by decide) (fun c_111 => ?_) (fun c_111 => ?_)
                          · replace hsp := (if_neg c_111).symm.trans hsp
                            refine lv_iconst (v := 0) hx hb dL_isRota_148 (by decide) ?_
                            refine lv_istore_n (lv' := [(2, .int (0)), (6, .int (((48 + (w_truckAt ((l_renderDay σ6 y3_6).2) y4_47 y3_6)).toUInt32 % 65536).toInt32)), (1, .int (y1_47 + 0)), (5, .int ((w_truckAt ((l_renderDay σ6 y3_6).2) y4_47 y3_6))), (0, .ref (a)), (3, .int (y3_6)), (4, .int (y4_47))]) hx hb dL_isRota_149 rfl hl (by decide) rfl (fun ls hl => ?_)
                            refine lv_iinc (v := y4_47 + 1) (lv' := [(4, .int (y4_47 + 1)), (2, .int (0)), (6, .int (((48 + (w_truckAt ((l_renderDay σ6 y3_6).2) y4_47 y3_6)).toUInt32 % 65536).toInt32)), (1, .int (y1_47 + 0)), (5, .int ((w_truckAt ((l_renderDay σ6 y3_6).2) y4_47 y3_6))), (0, .ref (a)), (3, .int (y3_6))]) hx hb dL_isRota_150 hl (k := 6) rfl rfl (by decide) rfl (fun ls hl => ?_)
                            refine lv_goto (tgt := 47) hx hb dL_isRota_153 (by decide) ?_
                            refine W.widen (k := 23 + 68 * i_6 + 9 * (i_47 + 1)) (n := 858 + 1128 * i_6 + 54 * (i_47 + 1)) (by omega) (by omega) ?_
                            exact ih_47 (y1_47 + 0) 0 (y4_47 + 1) (i_47 + 1) (by rw [hi_47, nI_1]) hlt_47 (by omega) (by first | exact fun h => absurd rfl h | exact fun _ => hv_47 (by assumption)) _ _ hP hS ls (lv_sub hl [5, 3, 1, 6, 0] rfl) hsp
                          · replace hsp := (if_pos c_111).symm.trans hsp
                            refine lv_iload hx hb dL_isRota_114 (lv_at hl 2 rfl) ?_
                            refine lv_sipush (v := (-1000)) hx hb dL_isRota_116 (by decide) ?_
                            refine lv_icmp_eq (tgt := 144) hx hb dL_isRota_119 (by decide) (fun c_119 => ?_) (fun c_119 => ?_)
                            · replace hsp := (if_pos c_119).symm.trans hsp
                              refine lv_iconst (v := 1) hx hb dL_isRota_144 (by decide) ?_
                              refine lv_goto (tgt := 149) hx hb dL_isRota_145 (by decide) ?_
                              refine lv_istore_n (lv' := [(2, .int (1)), (6, .int (((48 + (w_truckAt ((l_renderDay σ6 y3_6).2) y4_47 y3_6)).toUInt32 % 65536).toInt32)), (1, .int (y1_47 + 0)), (5, .int ((w_truckAt ((l_renderDay σ6 y3_6).2) y4_47 y3_6))), (0, .ref (a)), (3, .int (y3_6)), (4, .int (y4_47))]) hx hb dL_isRota_149 rfl hl (by decide) rfl (fun ls hl => ?_)
                              refine lv_iinc (v := y4_47 + 1) (lv' := [(4, .int (y4_47 + 1)), (2, .int (1)), (6, .int (((48 + (w_truckAt ((l_renderDay σ6 y3_6).2) y4_47 y3_6)).toUInt32 % 65536).toInt32)), (1, .int (y1_47 + 0)), (5, .int ((w_truckAt ((l_renderDay σ6 y3_6).2) y4_47 y3_6))), (0, .ref (a)), (3, .int (y3_6))]) hx hb dL_isRota_150 hl (k := 6) rfl rfl (by decide) rfl (fun ls hl => ?_)
                              refine lv_goto (tgt := 47) hx hb dL_isRota_153 (by decide) ?_
                              refine W.widen (k := 23 + 68 * i_6 + 9 * (i_47 + 1)) (n := 858 + 1128 * i_6 + 54 * (i_47 + 1)) (by omega) (by omega) ?_
                              exact ih_47 (y1_47 + 0) 1 (y4_47 + 1) (i_47 + 1) (by rw [hi_47, nI_1]) hlt_47 (by omega) (by first | exact fun h => absurd rfl h | exact fun _ => hv_47 (by assumption)) _ _ hP hS ls (lv_sub hl [5, 3, 1, 6, 0] rfl) hsp
                            · replace hsp := (if_neg c_119).symm.trans hsp
                              refine lv_aload_n hx hb dL_isRota_122 rfl (lv_at hl 3 rfl) ?_
                              refine lv_iload hx hb dL_isRota_123 (lv_at hl 2 rfl) ?_
                              refine lv_iload_n hx hb dL_isRota_125 rfl (lv_at hl 5 rfl) ?_
                              refine va_calli (va_runV (As := [.int ((w_truckAt ((l_renderDay σ6 y3_6).2) y4_47 y3_6)), .int (y3_6)]) (rest := []) ⟨hx, hb, hml, hown, hts⟩ (ft_noX (cl_pitchOf l hl0 D Z k sz a ((l_renderDay σ6 y3_6).2) (w_truckAt ((l_renderDay σ6 y3_6).2) y4_47 y3_6) y3_6 ) (hJ.o_pitchOf _ _ _ hJ_18_0 (by assumption))) (cwV 2 hts gL_isRota_X7_pitchOf rfl rfl rfl (by decide +kernel) ⟨Nat.le_of_ble_eq_true rfl, Nat.le_of_ble_eq_true rfl⟩) (ft_preL hE hz hS hP) rfl rfl hl.1 rfl (lv_room (Nat.le_of_ble_eq_true rfl)) dL_isRota_126 ⟨(show 27 + 68 * i_6 + 9 * i_47 + 3 ≤ 476 by omega), (show 882 + 1128 * i_6 + 54 * i_47 + 18 ≤ 7896 by omega)⟩) hS (fun _ _ h => h) (fun _ h => h) (fun z u t H1 locs1 ht hvm hw hB hz1 hk1 hS1 => ?_)
                              obtain rfl : z = (p_pitchOf ((l_renderDay σ6 y3_6).2) (w_truckAt ((l_renderDay σ6 y3_6).2) y4_47 y3_6) y3_6) := hw
                              rw [ht] at hB
                              have hP := hB
                              have hS := hS1
                              clear hS1
                              generalize H1 = H at hP hS ⊢
                              refine W.widen (k := 30 + 68 * i_6 + 9 * i_47) (n := 900 + 1128 * i_6 + 54 * i_47) (by omega) (by omega) ?_
                              refine lv_iload hx hb dL_isRota_129 (lv_at hl 6 rfl) ?_
                              refine lv_icmp_ne (tgt := 148) hx hb dL_isRota_131 (by decide) (fun c_131 => ?_) (fun c_131 => ?_)
                              · replace hsp := (if_neg c_131).symm.trans hsp
                                refine lv_iconst (v := 0) hx hb dL_isRota_148 (by decide) ?_
                                refine lv_istore_n (lv' := [(2, .int (0)), (6, .int (((48 + (w_truckAt ((l_renderDay σ6 y3_6).2) y4_47 y3_6)).toUInt32 % 65536).toInt32)), (1, .int (y1_47 + 0)), (5, .int ((w_truckAt ((l_renderDay σ6 y3_6).2) y4_47 y3_6))), (0, .ref (a)), (3, .int (y3_6)), (4, .int (y4_47))]) hx hb dL_isRota_149 rfl hl (by decide) rfl (fun ls hl => ?_)
                                refine lv_iinc (v := y4_47 + 1) (lv' := [(4, .int (y4_47 + 1)), (2, .int (0)), (6, .int (((48 + (w_truckAt ((l_renderDay σ6 y3_6).2) y4_47 y3_6)).toUInt32 % 65536).toInt32)), (1, .int (y1_47 + 0)), (5, .int ((w_truckAt ((l_renderDay σ6 y3_6).2) y4_47 y3_6))), (0, .ref (a)), (3, .int (y3_6))]) hx hb dL_isRota_150 hl (k := 6) rfl rfl (by decide) rfl (fun ls hl => ?_)
                                refine lv_goto (tgt := 47) hx hb dL_isRota_153 (by decide) ?_
                                refine W.widen (k := 23 + 68 * i_6 + 9 * (i_47 + 1)) (n := 858 + 1128 * i_6 + 54 * (i_47 + 1)) (by omega) (by omega) ?_
                                exact ih_47 (y1_47 + 0) 0 (y4_47 + 1) (i_47 + 1) (by rw [hi_47, nI_1]) hlt_47 (by omega) (by first | exact fun h => absurd rfl h | exact fun _ => hv_47 (by assumption)) _ _ hP hS ls (lv_sub hl [5, 3, 1, 6, 0] rfl) hsp
                              · replace hsp := (if_pos c_131).symm.trans hsp
                                refine lv_aload_n hx hb dL_isRota_134 rfl (lv_at hl 3 rfl) ?_
                                refine lv_iload hx hb dL_isRota_135 (lv_at hl 2 rfl) ?_
                                refine lv_iload_n hx hb dL_isRota_137 rfl (lv_at hl 5 rfl) ?_
                                refine va_calli (va_runV (As := [.int ((w_truckAt ((l_renderDay σ6 y3_6).2) y4_47 y3_6)), .int (y3_6)]) (rest := []) ⟨hx, hb, hml, hown, hts⟩ (ft_noX (cl_hasPermit l hl0 D Z k sz a ((l_renderDay σ6 y3_6).2) (w_truckAt ((l_renderDay σ6 y3_6).2) y4_47 y3_6) y3_6 ) (ok_hasPermit (hJ.o_tA _ _ _ hJ_18_0 (by assumption)) (ft_nw hi_6 hl5_6))) (cwV 2 hts gL_isRota_X7_hasPermit rfl rfl rfl (by decide +kernel) ⟨Nat.le_of_ble_eq_true rfl, Nat.le_of_ble_eq_true rfl⟩) (ft_preL hE hz hS hP) rfl rfl hl.1 rfl (lv_room (Nat.le_of_ble_eq_true rfl)) dL_isRota_138 ⟨(show 30 + 68 * i_6 + 9 * i_47 + 2 ≤ 476 by omega), (show 900 + 1128 * i_6 + 54 * i_47 + 12 ≤ 7896 by omega)⟩) hS (fun _ _ h => h) (fun _ h => h) (fun z u t H1 locs1 ht hvm hw hB hz1 hk1 hS1 => ?_)
                                obtain rfl : z = (p_hasPermit ((l_renderDay σ6 y3_6).2) (w_truckAt ((l_renderDay σ6 y3_6).2) y4_47 y3_6) y3_6) := hw
                                rw [ht] at hB
                                have hP := hB
                                have hS := hS1
                                clear hS1
                                generalize H1 = H at hP hS ⊢
                                refine W.widen (k := 32 + 68 * i_6 + 9 * i_47) (n := 912 + 1128 * i_6 + 54 * i_47) (by omega) (by omega) ?_
                                refine lv_if_eq (tgt := 148) hx hb dL_isRota_141 (by decide) (fun c_141 => ?_) (fun c_141 => ?_)
                                · replace hsp := (if_pos c_141).symm.trans hsp
                                  refine lv_iconst (v := 0) hx hb dL_isRota_148 (by decide) ?_
                                  refine lv_istore_n (lv' := [(2, .int (0)), (6, .int (((48 + (w_truckAt ((l_renderDay σ6 y3_6).2) y4_47 y3_6)).toUInt32 % 65536).toInt32)), (1, .int (y1_47 + 0)), (5, .int ((w_truckAt ((l_renderDay σ6 y3_6).2) y4_47 y3_6))), (0, .ref (a)), (3, .int (y3_6)), (4, .int (y4_47))]) hx hb dL_isRota_149 rfl hl (by decide) rfl (fun ls hl => ?_)
                                  refine lv_iinc (v := y4_47 + 1) (lv' := [(4, .int (y4_47 + 1)), (2, .int (0)), (6, .int (((48 + (w_truckAt ((l_renderDay σ6 y3_6).2) y4_47 y3_6)).toUInt32 % 65536).toInt32)), (1, .int (y1_47 + 0)), (5, .int ((w_truckAt ((l_renderDay σ6 y3_6).2) y4_47 y3_6))), (0, .ref (a)), (3, .int (y3_6))]) hx hb dL_isRota_150 hl (k := 6) rfl rfl (by decide) rfl (fun ls hl => ?_)
                                  refine lv_goto (tgt := 47) hx hb dL_isRota_153 (by decide) ?_
                                  refine W.widen (k := 23 + 68 * i_6 + 9 * (i_47 + 1)) (n := 858 + 1128 * i_6 + 54 * (i_47 + 1)) (by omega) (by omega) ?_
                                  exact ih_47 (y1_47 + 0) 0 (y4_47 + 1) (i_47 + 1) (by rw [hi_47, nI_1]) hlt_47 (by omega) (by first | exact fun h => absurd rfl h | exact fun _ => hv_47 (by assumption)) _ _ hP hS ls (lv_sub hl [5, 3, 1, 6, 0] rfl) hsp
                                · replace hsp := (if_neg c_141).symm.trans hsp
                                  refine lv_iconst (v := 1) hx hb dL_isRota_144 (by decide) ?_
                                  refine lv_goto (tgt := 149) hx hb dL_isRota_145 (by decide) ?_
                                  refine lv_istore_n (lv' := [(2, .int (1)), (6, .int (((48 + (w_truckAt ((l_renderDay σ6 y3_6).2) y4_47 y3_6)).toUInt32 % 65536).toInt32)), (1, .int (y1_47 + 0)), (5, .int ((w_truckAt ((l_renderDay σ6 y3_6).2) y4_47 y3_6))), (0, .ref (a)), (3, .int (y3_6)), (4, .int (y4_47))]) hx hb dL_isRota_149 rfl hl (by decide) rfl (fun ls hl => ?_)
                                  refine lv_iinc (v := y4_47 + 1) (lv' := [(4, .int (y4_47 + 1)), (2, .int (1)), (6, .int (((48 + (w_truckAt ((l_renderDay σ6 y3_6).2) y4_47 y3_6)).toUInt32 % 65536).toInt32)), (1, .int (y1_47 + 0)), (5, .int ((w_truckAt ((l_renderDay σ6 y3_6).2) y4_47 y3_6))), (0, .ref (a)), (3, .int (y3_6))]) hx hb dL_isRota_150 hl (k := 6) rfl rfl (by decide) rfl (fun ls hl => ?_)
                                  refine lv_goto (tgt := 47) hx hb dL_isRota_153 (by decide) ?_
                                  refine W.widen (k := 23 + 68 * i_6 + 9 * (i_47 + 1)) (n := 858 + 1128 * i_6 + 54 * (i_47 + 1)) (by omega) (by omega) ?_
                                  exact ih_47 (y1_47 + 0) 1 (y4_47 + 1) (i_47 + 1) (by rw [hi_47, nI_1]) hlt_47 (by omega) (by first | exact fun h => absurd rfl h | exact fun _ => hv_47 (by assumption)) _ _ hP hS ls (lv_sub hl [5, 3, 1, 6, 0] rfl) hsp
                        · replace hsp := (if_pos c_87).symm.trans hsp
                          refine lv_bipush (v := 45) hx hb dL_isRota_90 (by decide) ?_
                          refine lv_goto (tgt := 101) hx hb dL_isRota_92 (by decide) ?_
                          refine lv_istore (lv' := [(6, .int (45)), (1, .int (y1_47 + 0)), (5, .int ((w_truckAt ((l_renderDay σ6 y3_6).2) y4_47 y3_6))), (0, .ref (a)), (2, .int (y2_47)), (3, .int (y3_6)), (4, .int (y4_47))]) hx hb dL_isRota_101 hl (by decide) rfl (fun ls hl => ?_)
                          refine lv_aload_n hx hb dL_isRota_103 rfl (lv_at hl 3 rfl) ?_
                          refine lv_iload hx hb dL_isRota_104 (lv_at hl 6 rfl) ?_
                          refine va_calli (va_runV (As := [.int (y4_47)]) (rest := []) ⟨hx, hb, hml, hown, hts⟩ (ft_noX (cl_outputAt l hl0 D Z k sz a ((l_renderDay σ6 y3_6).2) y4_47 (ft_ok1c (hJ.ok1 _ hJ_18_0)).1 (ft_ok1c (hJ.ok1 _ hJ_18_0)).2) (hJ.o_outputAt _ _ _ i_47 hj_6 (ft_nw hi_6 hl5_6) (hv_47 (by assumption)) hi_47 hl5_47)) (cwV 1 hts gL_isRota_X7_outputAt rfl rfl rfl (by decide +kernel) ⟨Nat.le_of_ble_eq_true rfl, Nat.le_of_ble_eq_true rfl⟩) (ft_preL hE hz hS hP) rfl rfl hl.1 rfl (lv_room (Nat.le_of_ble_eq_true rfl)) dL_isRota_106 ⟨(show 26 + 68 * i_6 + 9 * i_47 + 1 ≤ 476 by omega), (show 876 + 1128 * i_6 + 54 * i_47 + 6 ≤ 7896 by omega)⟩) hS (fun _ _ h => h) (fun _ h => h) (fun z u t H1 locs1 ht hvm hw hB hz1 hk1 hS1 => ?_)
                          obtain rfl : z = (p_outputAt ((l_renderDay σ6 y3_6).2) y4_47) := hw
                          rw [ht] at hB
                          have hP := hB
                          have hS := hS1
                          clear hS1
                          generalize H1 = H at hP hS ⊢
                          refine W.widen (k := 27 + 68 * i_6 + 9 * i_47) (n := 882 + 1128 * i_6 + 54 * i_47) (by omega) (by omega) ?_
                          refine lv_iload hx hb dL_isRota_109 (lv_at hl 0 rfl) ?_
                          refine lv_icmp_ne (tgt := 148) hx hb dL_isRota_111 (by decide) (fun c_111 => ?_) (fun c_111 => ?_)
                          · replace hsp := (if_neg c_111).symm.trans hsp
                            refine lv_iconst (v := 0) hx hb dL_isRota_148 (by decide) ?_
                            refine lv_istore_n (lv' := [(2, .int (0)), (6, .int (45)), (1, .int (y1_47 + 0)), (5, .int ((w_truckAt ((l_renderDay σ6 y3_6).2) y4_47 y3_6))), (0, .ref (a)), (3, .int (y3_6)), (4, .int (y4_47))]) hx hb dL_isRota_149 rfl hl (by decide) rfl (fun ls hl => ?_)
                            refine lv_iinc (v := y4_47 + 1) (lv' := [(4, .int (y4_47 + 1)), (2, .int (0)), (6, .int (45)), (1, .int (y1_47 + 0)), (5, .int ((w_truckAt ((l_renderDay σ6 y3_6).2) y4_47 y3_6))), (0, .ref (a)), (3, .int (y3_6))]) hx hb dL_isRota_150 hl (k := 6) rfl rfl (by decide) rfl (fun ls hl => ?_)
                            refine lv_goto (tgt := 47) hx hb dL_isRota_153 (by decide) ?_
                            refine W.widen (k := 23 + 68 * i_6 + 9 * (i_47 + 1)) (n := 858 + 1128 * i_6 + 54 * (i_47 + 1)) (by omega) (by omega) ?_
                            exact ih_47 (y1_47 + 0) 0 (y4_47 + 1) (i_47 + 1) (by rw [hi_47, nI_1]) hlt_47 (by omega) (by first | exact fun h => absurd rfl h | exact fun _ => hv_47 (by assumption)) _ _ hP hS ls (lv_sub hl [5, 3, 1, 6, 0] rfl) hsp
                          · replace hsp := (if_pos c_111).symm.trans hsp
                            refine lv_iload hx hb dL_isRota_114 (lv_at hl 2 rfl) ?_
                            refine lv_sipush (v := (-1000)) hx hb dL_isRota_116 (by decide) ?_
                            refine lv_icmp_eq (tgt := 144) hx hb dL_isRota_119 (by decide) (fun c_119 => ?_) (fun c_119 => ?_)
                            · replace hsp := (if_pos c_119).symm.trans hsp
                              refine lv_iconst (v := 1) hx hb dL_isRota_144 (by decide) ?_
                              refine lv_goto (tgt := 149) hx hb dL_isRota_145 (by decide) ?_
                              refine lv_istore_n (lv' := [(2, .int (1)), (6, .int (45)), (1, .int (y1_47 + 0)), (5, .int ((w_truckAt ((l_renderDay σ6 y3_6).2) y4_47 y3_6))), (0, .ref (a)), (3, .int (y3_6)), (4, .int (y4_47))]) hx hb dL_isRota_149 rfl hl (by decide) rfl (fun ls hl => ?_)
                              refine lv_iinc (v := y4_47 + 1) (lv' := [(4, .int (y4_47 + 1)), (2, .int (1)), (6, .int (45)), (1, .int (y1_47 + 0)), (5, .int ((w_truckAt ((l_renderDay σ6 y3_6).2) y4_47 y3_6))), (0, .ref (a)), (3, .int (y3_6))]) hx hb dL_isRota_150 hl (k := 6) rfl rfl (by decide) rfl (fun ls hl => ?_)
                              refine lv_goto (tgt := 47) hx hb dL_isRota_153 (by decide) ?_
                              refine W.widen (k := 23 + 68 * i_6 + 9 * (i_47 + 1)) (n := 858 + 1128 * i_6 + 54 * (i_47 + 1)) (by omega) (by omega) ?_
                              exact ih_47 (y1_47 + 0) 1 (y4_47 + 1) (i_47 + 1) (by rw [hi_47, nI_1]) hlt_47 (by omega) (by first | exact fun h => absurd rfl h | exact fun _ => hv_47 (by assumption)) _ _ hP hS ls (lv_sub hl [5, 3, 1, 6, 0] rfl) hsp
                            · replace hsp := (if_neg c_119).symm.trans hsp
                              refine lv_aload_n hx hb dL_isRota_122 rfl (lv_at hl 3 rfl) ?_
                              refine lv_iload hx hb dL_isRota_123 (lv_at hl 2 rfl) ?_
                              refine lv_iload_n hx hb dL_isRota_125 rfl (lv_at hl 5 rfl) ?_
                              refine va_calli (va_runV (As := [.int ((w_truckAt ((l_renderDay σ6 y3_6).2) y4_47 y3_6)), .int (y3_6)]) (rest := []) ⟨hx, hb, hml, hown, hts⟩ (ft_noX (cl_pitchOf l hl0 D Z k sz a ((l_renderDay σ6 y3_6).2) (w_truckAt ((l_renderDay σ6 y3_6).2) y4_47 y3_6) y3_6 ) (hJ.o_pitchOf _ _ _ hJ_18_0 (by assumption))) (cwV 2 hts gL_isRota_X7_pitchOf rfl rfl rfl (by decide +kernel) ⟨Nat.le_of_ble_eq_true rfl, Nat.le_of_ble_eq_true rfl⟩) (ft_preL hE hz hS hP) rfl rfl hl.1 rfl (lv_room (Nat.le_of_ble_eq_true rfl)) dL_isRota_126 ⟨(show 27 + 68 * i_6 + 9 * i_47 + 3 ≤ 476 by omega), (show 882 + 1128 * i_6 + 54 * i_47 + 18 ≤ 7896 by omega)⟩) hS (fun _ _ h => h) (fun _ h => h) (fun z u t H1 locs1 ht hvm hw hB hz1 hk1 hS1 => ?_)
                              obtain rfl : z = (p_pitchOf ((l_renderDay σ6 y3_6).2) (w_truckAt ((l_renderDay σ6 y3_6).2) y4_47 y3_6) y3_6) := hw
                              rw [ht] at hB
                              have hP := hB
                              have hS := hS1
                              clear hS1
                              generalize H1 = H at hP hS ⊢
                              refine W.widen (k := 30 + 68 * i_6 + 9 * i_47) (n := 900 + 1128 * i_6 + 54 * i_47) (by omega) (by omega) ?_
                              refine lv_iload hx hb dL_isRota_129 (lv_at hl 6 rfl) ?_
                              refine lv_icmp_ne (tgt := 148) hx hb dL_isRota_131 (by decide) (fun c_131 => ?_) (fun c_131 => ?_)
                              · replace hsp := (if_neg c_131).symm.trans hsp
                                refine lv_iconst (v := 0) hx hb dL_isRota_148 (by decide) ?_
                                refine lv_istore_n (lv' := [(2, .int (0)), (6, .int (45)), (1, .int (y1_47 + 0)), (5, .int ((w_truckAt ((l_renderDay σ6 y3_6).2) y4_47 y3_6))), (0, .ref (a)), (3, .int (y3_6)), (4, .int (y4_47))]) hx hb dL_isRota_149 rfl hl (by decide) rfl (fun ls hl => ?_)
                                refine lv_iinc (v := y4_47 + 1) (lv' := [(4, .int (y4_47 + 1)), (2, .int (0)), (6, .int (45)), (1, .int (y1_47 + 0)), (5, .int ((w_truckAt ((l_renderDay σ6 y3_6).2) y4_47 y3_6))), (0, .ref (a)), (3, .int (y3_6))]) hx hb dL_isRota_150 hl (k := 6) rfl rfl (by decide) rfl (fun ls hl => ?_)
                                refine lv_goto (tgt := 47) hx hb dL_isRota_153 (by decide) ?_
                                refine W.widen (k := 23 + 68 * i_6 + 9 * (i_47 + 1)) (n := 858 + 1128 * i_6 + 54 * (i_47 + 1)) (by omega) (by omega) ?_
                                exact ih_47 (y1_47 + 0) 0 (y4_47 + 1) (i_47 + 1) (by rw [hi_47, nI_1]) hlt_47 (by omega) (by first | exact fun h => absurd rfl h | exact fun _ => hv_47 (by assumption)) _ _ hP hS ls (lv_sub hl [5, 3, 1, 6, 0] rfl) hsp
                              · replace hsp := (if_pos c_131).symm.trans hsp
                                refine lv_aload_n hx hb dL_isRota_134 rfl (lv_at hl 3 rfl) ?_
                                refine lv_iload hx hb dL_isRota_135 (lv_at hl 2 rfl) ?_
                                refine lv_iload_n hx hb dL_isRota_137 rfl (lv_at hl 5 rfl) ?_
                                refine va_calli (va_runV (As := [.int ((w_truckAt ((l_renderDay σ6 y3_6).2) y4_47 y3_6)), .int (y3_6)]) (rest := []) ⟨hx, hb, hml, hown, hts⟩ (ft_noX (cl_hasPermit l hl0 D Z k sz a ((l_renderDay σ6 y3_6).2) (w_truckAt ((l_renderDay σ6 y3_6).2) y4_47 y3_6) y3_6 ) (ok_hasPermit (hJ.o_tA _ _ _ hJ_18_0 (by assumption)) (ft_nw hi_6 hl5_6))) (cwV 2 hts gL_isRota_X7_hasPermit rfl rfl rfl (by decide +kernel) ⟨Nat.le_of_ble_eq_true rfl, Nat.le_of_ble_eq_true rfl⟩) (ft_preL hE hz hS hP) rfl rfl hl.1 rfl (lv_room (Nat.le_of_ble_eq_true rfl)) dL_isRota_138 ⟨(show 30 + 68 * i_6 + 9 * i_47 + 2 ≤ 476 by omega), (show 900 + 1128 * i_6 + 54 * i_47 + 12 ≤ 7896 by omega)⟩) hS (fun _ _ h => h) (fun _ h => h) (fun z u t H1 locs1 ht hvm hw hB hz1 hk1 hS1 => ?_)
                                obtain rfl : z = (p_hasPermit ((l_renderDay σ6 y3_6).2) (w_truckAt ((l_renderDay σ6 y3_6).2) y4_47 y3_6) y3_6) := hw
                                rw [ht] at hB
                                have hP := hB
                                have hS := hS1
                                clear hS1
                                generalize H1 = H at hP hS ⊢
                                refine W.widen (k := 32 + 68 * i_6 + 9 * i_47) (n := 912 + 1128 * i_6 + 54 * i_47) (by omega) (by omega) ?_
                                refine lv_if_eq (tgt := 148) hx hb dL_isRota_141 (by decide) (fun c_141 => ?_) (fun c_141 => ?_)
                                · replace hsp := (if_pos c_141).symm.trans hsp
                                  refine lv_iconst (v := 0) hx hb dL_isRota_148 (by decide) ?_
                                  refine lv_istore_n (lv' := [(2, .int (0)), (6, .int (45)), (1, .int (y1_47 + 0)), (5, .int ((w_truckAt ((l_renderDay σ6 y3_6).2) y4_47 y3_6))), (0, .ref (a)), (3, .int (y3_6)), (4, .int (y4_47))]) hx hb dL_isRota_149 rfl hl (by decide) rfl (fun ls hl => ?_)
                                  refine lv_iinc (v := y4_47 + 1) (lv' := [(4, .int (y4_47 + 1)), (2, .int (0)), (6, .int (45)), (1, .int (y1_47 + 0)), (5, .int ((w_truckAt ((l_renderDay σ6 y3_6).2) y4_47 y3_6))), (0, .ref (a)), (3, .int (y3_6))]) hx hb dL_isRota_150 hl (k := 6) rfl rfl (by decide) rfl (fun ls hl => ?_)
                                  refine lv_goto (tgt := 47) hx hb dL_isRota_153 (by decide) ?_
                                  refine W.widen (k := 23 + 68 * i_6 + 9 * (i_47 + 1)) (n := 858 + 1128 * i_6 + 54 * (i_47 + 1)) (by omega) (by omega) ?_
                                  exact ih_47 (y1_47 + 0) 0 (y4_47 + 1) (i_47 + 1) (by rw [hi_47, nI_1]) hlt_47 (by omega) (by first | exact fun h => absurd rfl h | exact fun _ => hv_47 (by assumption)) _ _ hP hS ls (lv_sub hl [5, 3, 1, 6, 0] rfl) hsp
                                · replace hsp := (if_neg c_141).symm.trans hsp
                                  refine lv_iconst (v := 1) hx hb dL_isRota_144 (by decide) ?_
                                  refine lv_goto (tgt := 149) hx hb dL_isRota_145 (by decide) ?_
                                  refine lv_istore_n (lv' := [(2, .int (1)), (6, .int (45)), (1, .int (y1_47 + 0)), (5, .int ((w_truckAt ((l_renderDay σ6 y3_6).2) y4_47 y3_6))), (0, .ref (a)), (3, .int (y3_6)), (4, .int (y4_47))]) hx hb dL_isRota_149 rfl hl (by decide) rfl (fun ls hl => ?_)
                                  refine lv_iinc (v := y4_47 + 1) (lv' := [(4, .int (y4_47 + 1)), (2, .int (1)), (6, .int (45)), (1, .int (y1_47 + 0)), (5, .int ((w_truckAt ((l_renderDay σ6 y3_6).2) y4_47 y3_6))), (0, .ref (a)), (3, .int (y3_6))]) hx hb dL_isRota_150 hl (k := 6) rfl rfl (by decide) rfl (fun ls hl => ?_)
                                  refine lv_goto (tgt := 47) hx hb dL_isRota_153 (by decide) ?_
                                  refine W.widen (k := 23 + 68 * i_6 + 9 * (i_47 + 1)) (n := 858 + 1128 * i_6 + 54 * (i_47 + 1)) (by omega) (by omega) ?_
                                  exact ih_47 (y1_47 + 0) 1 (y4_47 + 1) (i_47 + 1) (by rw [hi_47, nI_1]) hlt_47 (by omega) (by first | exact fun h => absurd rfl h | exact fun _ => hv_47 (by assumption)) _ _ hP hS ls (lv_sub hl [5, 3, 1, 6, 0] rfl) hsp
              refine W.widen (k := 23 + 68 * i_6 + 9 * 0) (n := 858 + 1128 * i_6 + 54 * 0) (by omega) (by omega) ?_
              refine loop_47 _ (fun y1_47 y2_47 y4_47 i_47 hi_47 hm_47 hv_47 H locs hP hS ls hl hsp => ?_) (tn 5 + 1) y1_6 0 0 0 rfl (Nat.zero_le _) (by omega) (by first | exact fun h => absurd rfl h | exact fun _ => by assumption) _ _ hP hS ls (lv_sub hl [2, 3, 1, 4, 0] rfl) hsp
              refine W.widen (k := 68 + 68 * i_6) (n := 1128 + 1128 * i_6) (by omega) (by omega) ?_
              refine lv_iinc (v := y3_6 + 1) (lv' := [(3, .int (y3_6 + 1)), (0, .ref (a)), (1, .int (y1_47)), (2, .int (y2_47)), (4, .int (y4_47))]) hx hb dL_isRota_156 hl (k := 3) rfl rfl (by decide) rfl (fun ls hl => ?_)
              refine lv_goto (tgt := 6) hx hb dL_isRota_159 (by decide) ?_
              refine W.widen (k := 0 + 68 * (i_6 + 1)) (n := 0 + 1128 * (i_6 + 1)) (by omega) (by omega) ?_
              exact ih_6 y1_47 y2_47 (y3_6 + 1) ((l_renderDay σ6 y3_6).2) (i_6 + 1) (by rw [hi_6, nI_1]) hlt_6 (by omega) hJ_18_0 _ _ hP hS ls (lv_sub hl [1, 2, 3, 0] rfl) hsp
            · replace hsp := (if_pos c_35).symm.trans hsp
              refine lv_iconst (v := 1) hx hb dL_isRota_38 (by decide) ?_
              refine lv_goto (tgt := 43) hx hb dL_isRota_39 (by decide) ?_
              refine lv_istore_n (lv' := [(2, .int (1)), (0, .ref (a)), (1, .int (y1_6)), (3, .int (y3_6))]) hx hb dL_isRota_43 rfl hl (by decide) rfl (fun ls hl => ?_)
              refine lv_iconst (v := 0) hx hb dL_isRota_44 (by decide) ?_
              refine lv_istore (lv' := [(4, .int (0)), (2, .int (1)), (0, .ref (a)), (1, .int (y1_6)), (3, .int (y3_6))]) hx hb dL_isRota_45 hl (by decide) rfl (fun ls hl => ?_)
              have loop_47 : ∀ (K : Int32 → Int32 → Int32 → (Int32 × ft_Sg)) (hKx : ∀ (y1_47 : Int32) (y2_47 : Int32) (y4_47 : Int32) (i_47 : Nat) (hi_47 : y4_47 = nI i_47) (hm_47 : i_47 ≤ tn 5) (hv_47 : ¬ y2_47 = 0 → p_renderDay σ6 y3_6 = 5) (H : Heap) (locs : List Loc) (hP : ft_LW D k Z sz a ((l_renderDay σ6 y3_6).2) H) (hS : va_S (ft_AL sz) s.heap H locs) (ls : Array Slot) (hl : lv_has ls 7 [(0, .ref (a)), (1, .int (y1_47)), (2, .int (y2_47)), (3, .int (y3_6)), (4, .int (y4_47))]) (hsp : K y1_47 y2_47 y4_47 = s_L_isRota σ), W p l e (headSpec wsL_isRota ({ frames := 10, cells := 476, slots := 7896, locals := 247 })).room s m ([.ref a] : List Value).toArray below meth c H locs (23 + 68 * i_6 + 45) (858 + 1128 * i_6 + 270) (MQ below (ft_QJ J D k Z sz a (s_L_isRota σ)) ([.ref a] : List Value).toArray s 476 7896 (ft_AL sz)) (F0 m 156 ls [])) (n_47 : Nat), ∀ (y1_47 : Int32) (y2_47 : Int32) (y4_47 : Int32) (i_47 : Nat) (hi_47 : y4_47 = nI i_47) (hm_47 : i_47 ≤ tn 5) (hn_47 : tn 5 < n_47 + i_47) (hv_47 : ¬ y2_47 = 0 → p_renderDay σ6 y3_6 = 5) (H : Heap) (locs : List Loc) (hP : ft_LW D k Z sz a ((l_renderDay σ6 y3_6).2) H) (hS : va_S (ft_AL sz) s.heap H locs) (ls : Array Slot) (hl : lv_has ls 7 [(0, .ref (a)), (1, .int (y1_47)), (2, .int (y2_47)), (3, .int (y3_6)), (4, .int (y4_47))]) (hsp : s_L_isRota_L47 σ y1_6 y2_6 y3_6 σ6 K n_47 y1_47 y2_47 y4_47 = s_L_isRota σ), W p l e (headSpec wsL_isRota ({ frames := 10, cells := 476, slots := 7896, locals := 247 })).room s m ([.ref a] : List Value).toArray below meth c H locs (23 + 68 * i_6 + 9 * i_47) (858 + 1128 * i_6 + 54 * i_47) (MQ below (ft_QJ J D k Z sz a (s_L_isRota σ)) ([.ref a] : List Value).toArray s 476 7896 (ft_AL sz)) (F0 m 47 ls []) := by
                intro K hKx n_47
                induction n_47 with
                | zero => intro y1_47 y2_47 y4_47 i_47 hi_47 hm_47 hn_47; exact absurd hn_47 (by omega)
                | succ n ih_47 =>
                  intro y1_47 y2_47 y4_47 i_47 hi_47 hm_47 hn_47 hv_47 H locs hP hS ls hl hsp
                  rw [s_L_isRota_L47] at hsp
                  have hm5_47 : i_47 ≤ 5 := hm_47
                  refine lv_iload_n hx hb dL_isRota_47 rfl (lv_at hl 2 rfl) ?_
                  refine lv_if_eq (tgt := 156) hx hb dL_isRota_48 (by decide) (fun c_48 => ?_) (fun c_48 => ?_)
                  · replace hsp := (if_pos c_48).symm.trans hsp
                    refine W.widen (k := 23 + 68 * i_6 + 45) (n := 858 + 1128 * i_6 + 270) (by omega) (by omega) ?_
                    exact hKx y1_47 y2_47 y4_47 i_47 hi_47 hm_47 (hv_47) _ _ hP hS ls (lv_sub hl [0, 1, 2, 3, 4] rfl) hsp
                  · replace hsp := (if_neg c_48).symm.trans hsp
                    refine lv_iload hx hb dL_isRota_51 (lv_at hl 4 rfl) ?_
                    refine lv_iconst (v := 5) hx hb dL_isRota_53 (by decide) ?_
                    refine lv_icmp_ge (tgt := 156) hx hb dL_isRota_54 (by decide) (fun c_54 => ?_) (fun c_54 => ?_)
                    · replace hsp := (if_pos c_54).symm.trans hsp
                      refine W.widen (k := 23 + 68 * i_6 + 45) (n := 858 + 1128 * i_6 + 270) (by omega) (by omega) ?_
                      exact hKx y1_47 y2_47 y4_47 i_47 hi_47 hm_47 (hv_47) _ _ hP hS ls (lv_sub hl [0, 1, 2, 3, 4] rfl) hsp
                    · replace hsp := (if_neg c_54).symm.trans hsp
                      have hlt_47 := ft_step hi_47 hm_47 c_54
                      have hl5_47 : i_47 + 1 ≤ 5 := hlt_47
                      refine lv_aload_n hx hb dL_isRota_57 rfl (lv_at hl 0 rfl) ?_
                      refine lv_iload hx hb dL_isRota_58 (lv_at hl 4 rfl) ?_
                      refine lv_iload_n hx hb dL_isRota_60 rfl (lv_at hl 3 rfl) ?_
                      refine va_calli (vx_runSW (As := [.ref (a), .int (y4_47), .int (y3_6)]) (rest := []) ⟨hx, hb, hml, hown, hts⟩ (d_L_truckAt l hl0 D Z k sz a ((l_renderDay σ6 y3_6).2) y4_47 y3_6  (ex_truckAt)) (vx_cwSW 3 hts gL_isRota_L_truckAt rfl rfl rfl (by decide +kernel) ⟨Nat.le_of_ble_eq_true rfl, Nat.le_of_ble_eq_true rfl⟩) (ft_preM hEL hz hS hP) rfl rfl hl.1 rfl (lv_room (Nat.le_of_ble_eq_true rfl)) dL_isRota_61 ⟨(show 23 + 68 * i_6 + 9 * i_47 + 3 ≤ 476 by omega), (show 858 + 1128 * i_6 + 54 * i_47 + 18 ≤ 7896 by omega)⟩) hS (fun _ _ h => h) (fun _ h => h) (fun z u t H1 locs1 ht hvm hw hB hz1 hk1 hS1 => ?_)
                      obtain rfl : z = (w_truckAt ((l_renderDay σ6 y3_6).2) y4_47 y3_6) := hw
                      rw [ht] at hB
                      have hP := hB
                      have hS := hS1
                      clear hS1
                      generalize H1 = H at hP hS ⊢
                      refine W.widen (k := 26 + 68 * i_6 + 9 * i_47) (n := 876 + 1128 * i_6 + 54 * i_47) (by omega) (by omega) ?_
                      refine lv_istore (lv' := [(5, .int ((w_truckAt ((l_renderDay σ6 y3_6).2) y4_47 y3_6))), (0, .ref (a)), (1, .int (y1_47)), (2, .int (y2_47)), (3, .int (y3_6)), (4, .int (y4_47))]) hx hb dL_isRota_64 hl (by decide) rfl (fun ls hl => ?_)
                      refine lv_iload_n hx hb dL_isRota_66 rfl (lv_at hl 2 rfl) ?_
                      refine lv_iload hx hb dL_isRota_67 (lv_at hl 0 rfl) ?_
                      refine lv_sipush (v := (-1000)) hx hb dL_isRota_69 (by decide) ?_
                      refine lv_icmp_ne (tgt := 79) hx hb dL_isRota_72 (by decide) (fun c_72 => ?_) (fun c_72 => ?_)
                      · replace hsp := (if_neg c_72).symm.trans hsp
                        refine lv_iconst (v := 1) hx hb dL_isRota_79 (by decide) ?_
                        refine lv_iadd hx hb dL_isRota_80 ?_
                        refine lv_istore_n (lv' := [(1, .int (y1_47 + 1)), (5, .int ((w_truckAt ((l_renderDay σ6 y3_6).2) y4_47 y3_6))), (0, .ref (a)), (2, .int (y2_47)), (3, .int (y3_6)), (4, .int (y4_47))]) hx hb dL_isRota_81 rfl hl (by decide) rfl (fun ls hl => ?_)
                        refine lv_iload hx hb dL_isRota_82 (lv_at hl 1 rfl) ?_
                        refine lv_sipush (v := (-1000)) hx hb dL_isRota_84 (by decide) ?_
                        refine lv_icmp_ne (tgt := 95) hx hb dL_isRota_87 (by decide) (fun c_87 => ?_) (fun c_87 => ?_)
                        · replace hsp := (if_neg c_87).symm.trans hsp
                          refine lv_bipush (v := 48) hx hb dL_isRota_95 (by decide) ?_
                          refine lv_iload hx hb dL_isRota_97 (lv_at hl 1 rfl) ?_
                          refine lv_iadd hx hb dL_isRota_99 ?_
                          refine lv_i2c (v := ((48 + (w_truckAt ((l_renderDay σ6 y3_6).2) y4_47 y3_6)).toUInt32 % 65536).toInt32) hx hb dL_isRota_100 rfl ?_
                          refine lv_istore (lv' := [(6, .int (((48 + (w_truckAt ((l_renderDay σ6 y3_6).2) y4_47 y3_6)).toUInt32 % 65536).toInt32)), (1, .int (y1_47 + 1)), (5, .int ((w_truckAt ((l_renderDay σ6 y3_6).2) y4_47 y3_6))), (0, .ref (a)), (2, .int (y2_47)), (3, .int (y3_6)), (4, .int (y4_47))]) hx hb dL_isRota_101 hl (by decide) rfl (fun ls hl => ?_)
                          refine lv_aload_n hx hb dL_isRota_103 rfl (lv_at hl 3 rfl) ?_
                          refine lv_iload hx hb dL_isRota_104 (lv_at hl 6 rfl) ?_
                          refine va_calli (va_runV (As := [.int (y4_47)]) (rest := []) ⟨hx, hb, hml, hown, hts⟩ (ft_noX (cl_outputAt l hl0 D Z k sz a ((l_renderDay σ6 y3_6).2) y4_47 (ft_ok1c (hJ.ok1 _ hJ_18_0)).1 (ft_ok1c (hJ.ok1 _ hJ_18_0)).2) (hJ.o_outputAt _ _ _ i_47 hj_6 (ft_nw hi_6 hl5_6) (hv_47 (by assumption)) hi_47 hl5_47)) (cwV 1 hts gL_isRota_X7_outputAt rfl rfl rfl (by decide +kernel) ⟨Nat.le_of_ble_eq_true rfl, Nat.le_of_ble_eq_true rfl⟩) (ft_preL hE hz hS hP) rfl rfl hl.1 rfl (lv_room (Nat.le_of_ble_eq_true rfl)) dL_isRota_106 ⟨(show 26 + 68 * i_6 + 9 * i_47 + 1 ≤ 476 by omega), (show 876 + 1128 * i_6 + 54 * i_47 + 6 ≤ 7896 by omega)⟩) hS (fun _ _ h => h) (fun _ h => h) (fun z u t H1 locs1 ht hvm hw hB hz1 hk1 hS1 => ?_)
                          obtain rfl : z = (p_outputAt ((l_renderDay σ6 y3_6).2) y4_47) := hw
                          rw [ht] at hB
                          have hP := hB
                          have hS := hS1
                          clear hS1
                          generalize H1 = H at hP hS ⊢
                          refine W.widen (k := 27 + 68 * i_6 + 9 * i_47) (n := 882 + 1128 * i_6 + 54 * i_47) (by omega) (by omega) ?_
                          refine lv_iload hx hb dL_isRota_109 (lv_at hl 0 rfl) ?_
                          refine lv_icmp_ne (tgt := 148) hx hb dL_isRota_111 (by decide) (fun c_111 => ?_) (fun c_111 => ?_)
                          · replace hsp := (if_neg c_111).symm.trans hsp
                            refine lv_iconst (v := 0) hx hb dL_isRota_148 (by decide) ?_
                            refine lv_istore_n (lv' := [(2, .int (0)), (6, .int (((48 + (w_truckAt ((l_renderDay σ6 y3_6).2) y4_47 y3_6)).toUInt32 % 65536).toInt32)), (1, .int (y1_47 + 1)), (5, .int ((w_truckAt ((l_renderDay σ6 y3_6).2) y4_47 y3_6))), (0, .ref (a)), (3, .int (y3_6)), (4, .int (y4_47))]) hx hb dL_isRota_149 rfl hl (by decide) rfl (fun ls hl => ?_)
                            refine lv_iinc (v := y4_47 + 1) (lv' := [(4, .int (y4_47 + 1)), (2, .int (0)), (6, .int (((48 + (w_truckAt ((l_renderDay σ6 y3_6).2) y4_47 y3_6)).toUInt32 % 65536).toInt32)), (1, .int (y1_47 + 1)), (5, .int ((w_truckAt ((l_renderDay σ6 y3_6).2) y4_47 y3_6))), (0, .ref (a)), (3, .int (y3_6))]) hx hb dL_isRota_150 hl (k := 6) rfl rfl (by decide) rfl (fun ls hl => ?_)
                            refine lv_goto (tgt := 47) hx hb dL_isRota_153 (by decide) ?_
                            refine W.widen (k := 23 + 68 * i_6 + 9 * (i_47 + 1)) (n := 858 + 1128 * i_6 + 54 * (i_47 + 1)) (by omega) (by omega) ?_
                            exact ih_47 (y1_47 + 1) 0 (y4_47 + 1) (i_47 + 1) (by rw [hi_47, nI_1]) hlt_47 (by omega) (by first | exact fun h => absurd rfl h | exact fun _ => hv_47 (by assumption)) _ _ hP hS ls (lv_sub hl [5, 3, 1, 6, 0] rfl) hsp
                          · replace hsp := (if_pos c_111).symm.trans hsp
                            refine lv_iload hx hb dL_isRota_114 (lv_at hl 2 rfl) ?_
                            refine lv_sipush (v := (-1000)) hx hb dL_isRota_116 (by decide) ?_
                            refine lv_icmp_eq (tgt := 144) hx hb dL_isRota_119 (by decide) (fun c_119 => ?_) (fun c_119 => ?_)
                            · replace hsp := (if_pos c_119).symm.trans hsp
                              refine lv_iconst (v := 1) hx hb dL_isRota_144 (by decide) ?_
                              refine lv_goto (tgt := 149) hx hb dL_isRota_145 (by decide) ?_
                              refine lv_istore_n (lv' := [(2, .int (1)), (6, .int (((48 + (w_truckAt ((l_renderDay σ6 y3_6).2) y4_47 y3_6)).toUInt32 % 65536).toInt32)), (1, .int (y1_47 + 1)), (5, .int ((w_truckAt ((l_renderDay σ6 y3_6).2) y4_47 y3_6))), (0, .ref (a)), (3, .int (y3_6)), (4, .int (y4_47))]) hx hb dL_isRota_149 rfl hl (by decide) rfl (fun ls hl => ?_)
                              refine lv_iinc (v := y4_47 + 1) (lv' := [(4, .int (y4_47 + 1)), (2, .int (1)), (6, .int (((48 + (w_truckAt ((l_renderDay σ6 y3_6).2) y4_47 y3_6)).toUInt32 % 65536).toInt32)), (1, .int (y1_47 + 1)), (5, .int ((w_truckAt ((l_renderDay σ6 y3_6).2) y4_47 y3_6))), (0, .ref (a)), (3, .int (y3_6))]) hx hb dL_isRota_150 hl (k := 6) rfl rfl (by decide) rfl (fun ls hl => ?_)
                              refine lv_goto (tgt := 47) hx hb dL_isRota_153 (by decide) ?_
                              refine W.widen (k := 23 + 68 * i_6 + 9 * (i_47 + 1)) (n := 858 + 1128 * i_6 + 54 * (i_47 + 1)) (by omega) (by omega) ?_
                              exact ih_47 (y1_47 + 1) 1 (y4_47 + 1) (i_47 + 1) (by rw [hi_47, nI_1]) hlt_47 (by omega) (by first | exact fun h => absurd rfl h | exact fun _ => hv_47 (by assumption)) _ _ hP hS ls (lv_sub hl [5, 3, 1, 6, 0] rfl) hsp
                            · replace hsp := (if_neg c_119).symm.trans hsp
                              refine lv_aload_n hx hb dL_isRota_122 rfl (lv_at hl 3 rfl) ?_
                              refine lv_iload hx hb dL_isRota_123 (lv_at hl 2 rfl) ?_
                              refine lv_iload_n hx hb dL_isRota_125 rfl (lv_at hl 5 rfl) ?_
                              refine va_calli (va_runV (As := [.int ((w_truckAt ((l_renderDay σ6 y3_6).2) y4_47 y3_6)), .int (y3_6)]) (rest := []) ⟨hx, hb, hml, hown, hts⟩ (ft_noX (cl_pitchOf l hl0 D Z k sz a ((l_renderDay σ6 y3_6).2) (w_truckAt ((l_renderDay σ6 y3_6).2) y4_47 y3_6) y3_6 ) (hJ.o_pitchOf _ _ _ hJ_18_0 (by assumption))) (cwV 2 hts gL_isRota_X7_pitchOf rfl rfl rfl (by decide +kernel) ⟨Nat.le_of_ble_eq_true rfl, Nat.le_of_ble_eq_true rfl⟩) (ft_preL hE hz hS hP) rfl rfl hl.1 rfl (lv_room (Nat.le_of_ble_eq_true rfl)) dL_isRota_126 ⟨(show 27 + 68 * i_6 + 9 * i_47 + 3 ≤ 476 by omega), (show 882 + 1128 * i_6 + 54 * i_47 + 18 ≤ 7896 by omega)⟩) hS (fun _ _ h => h) (fun _ h => h) (fun z u t H1 locs1 ht hvm hw hB hz1 hk1 hS1 => ?_)
                              obtain rfl : z = (p_pitchOf ((l_renderDay σ6 y3_6).2) (w_truckAt ((l_renderDay σ6 y3_6).2) y4_47 y3_6) y3_6) := hw
                              rw [ht] at hB
                              have hP := hB
                              have hS := hS1
                              clear hS1
                              generalize H1 = H at hP hS ⊢
                              refine W.widen (k := 30 + 68 * i_6 + 9 * i_47) (n := 900 + 1128 * i_6 + 54 * i_47) (by omega) (by omega) ?_
                              refine lv_iload hx hb dL_isRota_129 (lv_at hl 6 rfl) ?_
                              refine lv_icmp_ne (tgt := 148) hx hb dL_isRota_131 (by decide) (fun c_131 => ?_) (fun c_131 => ?_)
                              · replace hsp := (if_neg c_131).symm.trans hsp
                                refine lv_iconst (v := 0) hx hb dL_isRota_148 (by decide) ?_
                                refine lv_istore_n (lv' := [(2, .int (0)), (6, .int (((48 + (w_truckAt ((l_renderDay σ6 y3_6).2) y4_47 y3_6)).toUInt32 % 65536).toInt32)), (1, .int (y1_47 + 1)), (5, .int ((w_truckAt ((l_renderDay σ6 y3_6).2) y4_47 y3_6))), (0, .ref (a)), (3, .int (y3_6)), (4, .int (y4_47))]) hx hb dL_isRota_149 rfl hl (by decide) rfl (fun ls hl => ?_)
                                refine lv_iinc (v := y4_47 + 1) (lv' := [(4, .int (y4_47 + 1)), (2, .int (0)), (6, .int (((48 + (w_truckAt ((l_renderDay σ6 y3_6).2) y4_47 y3_6)).toUInt32 % 65536).toInt32)), (1, .int (y1_47 + 1)), (5, .int ((w_truckAt ((l_renderDay σ6 y3_6).2) y4_47 y3_6))), (0, .ref (a)), (3, .int (y3_6))]) hx hb dL_isRota_150 hl (k := 6) rfl rfl (by decide) rfl (fun ls hl => ?_)
                                refine lv_goto (tgt := 47) hx hb dL_isRota_153 (by decide) ?_
                                refine W.widen (k := 23 + 68 * i_6 + 9 * (i_47 + 1)) (n := 858 + 1128 * i_6 + 54 * (i_47 + 1)) (by omega) (by omega) ?_
                                exact ih_47 (y1_47 + 1) 0 (y4_47 + 1) (i_47 + 1) (by rw [hi_47, nI_1]) hlt_47 (by omega) (by first | exact fun h => absurd rfl h | exact fun _ => hv_47 (by assumption)) _ _ hP hS ls (lv_sub hl [5, 3, 1, 6, 0] rfl) hsp
                              · replace hsp := (if_pos c_131).symm.trans hsp
                                refine lv_aload_n hx hb dL_isRota_134 rfl (lv_at hl 3 rfl) ?_
                                refine lv_iload hx hb dL_isRota_135 (lv_at hl 2 rfl) ?_
                                refine lv_iload_n hx hb dL_isRota_137 rfl (lv_at hl 5 rfl) ?_
                                refine va_calli (va_runV (As := [.int ((w_truckAt ((l_renderDay σ6 y3_6).2) y4_47 y3_6)), .int (y3_6)]) (rest := []) ⟨hx, hb, hml, hown, hts⟩ (ft_noX (cl_hasPermit l hl0 D Z k sz a ((l_renderDay σ6 y3_6).2) (w_truckAt ((l_renderDay σ6 y3_6).2) y4_47 y3_6) y3_6 ) (ok_hasPermit (hJ.o_tA _ _ _ hJ_18_0 (by assumption)) (ft_nw hi_6 hl5_6))) (cwV 2 hts gL_isRota_X7_hasPermit rfl rfl rfl (by decide +kernel) ⟨Nat.le_of_ble_eq_true rfl, Nat.le_of_ble_eq_true rfl⟩) (ft_preL hE hz hS hP) rfl rfl hl.1 rfl (lv_room (Nat.le_of_ble_eq_true rfl)) dL_isRota_138 ⟨(show 30 + 68 * i_6 + 9 * i_47 + 2 ≤ 476 by omega), (show 900 + 1128 * i_6 + 54 * i_47 + 12 ≤ 7896 by omega)⟩) hS (fun _ _ h => h) (fun _ h => h) (fun z u t H1 locs1 ht hvm hw hB hz1 hk1 hS1 => ?_)
                                obtain rfl : z = (p_hasPermit ((l_renderDay σ6 y3_6).2) (w_truckAt ((l_renderDay σ6 y3_6).2) y4_47 y3_6) y3_6) := hw
                                rw [ht] at hB
                                have hP := hB
                                have hS := hS1
                                clear hS1
                                generalize H1 = H at hP hS ⊢
                                refine W.widen (k := 32 + 68 * i_6 + 9 * i_47) (n := 912 + 1128 * i_6 + 54 * i_47) (by omega) (by omega) ?_
                                refine lv_if_eq (tgt := 148) hx hb dL_isRota_141 (by decide) (fun c_141 => ?_) (fun c_141 => ?_)
                                · replace hsp := (if_pos c_141).symm.trans hsp
                                  refine lv_iconst (v := 0) hx hb dL_isRota_148 (by decide) ?_
                                  refine lv_istore_n (lv' := [(2, .int (0)), (6, .int (((48 + (w_truckAt ((l_renderDay σ6 y3_6).2) y4_47 y3_6)).toUInt32 % 65536).toInt32)), (1, .int (y1_47 + 1)), (5, .int ((w_truckAt ((l_renderDay σ6 y3_6).2) y4_47 y3_6))), (0, .ref (a)), (3, .int (y3_6)), (4, .int (y4_47))]) hx hb dL_isRota_149 rfl hl (by decide) rfl (fun ls hl => ?_)
                                  refine lv_iinc (v := y4_47 + 1) (lv' := [(4, .int (y4_47 + 1)), (2, .int (0)), (6, .int (((48 + (w_truckAt ((l_renderDay σ6 y3_6).2) y4_47 y3_6)).toUInt32 % 65536).toInt32)), (1, .int (y1_47 + 1)), (5, .int ((w_truckAt ((l_renderDay σ6 y3_6).2) y4_47 y3_6))), (0, .ref (a)), (3, .int (y3_6))]) hx hb dL_isRota_150 hl (k := 6) rfl rfl (by decide) rfl (fun ls hl => ?_)
                                  refine lv_goto (tgt := 47) hx hb dL_isRota_153 (by decide) ?_
                                  refine W.widen (k := 23 + 68 * i_6 + 9 * (i_47 + 1)) (n := 858 + 1128 * i_6 + 54 * (i_47 + 1)) (by omega) (by omega) ?_
                                  exact ih_47 (y1_47 + 1) 0 (y4_47 + 1) (i_47 + 1) (by rw [hi_47, nI_1]) hlt_47 (by omega) (by first | exact fun h => absurd rfl h | exact fun _ => hv_47 (by assumption)) _ _ hP hS ls (lv_sub hl [5, 3, 1, 6, 0] rfl) hsp
                                · replace hsp := (if_neg c_141).symm.trans hsp
                                  refine lv_iconst (v := 1) hx hb dL_isRota_144 (by decide) ?_
                                  refine lv_goto (tgt := 149) hx hb dL_isRota_145 (by decide) ?_
                                  refine lv_istore_n (lv' := [(2, .int (1)), (6, .int (((48 + (w_truckAt ((l_renderDay σ6 y3_6).2) y4_47 y3_6)).toUInt32 % 65536).toInt32)), (1, .int (y1_47 + 1)), (5, .int ((w_truckAt ((l_renderDay σ6 y3_6).2) y4_47 y3_6))), (0, .ref (a)), (3, .int (y3_6)), (4, .int (y4_47))]) hx hb dL_isRota_149 rfl hl (by decide) rfl (fun ls hl => ?_)
                                  refine lv_iinc (v := y4_47 + 1) (lv' := [(4, .int (y4_47 + 1)), (2, .int (1)), (6, .int (((48 + (w_truckAt ((l_renderDay σ6 y3_6).2) y4_47 y3_6)).toUInt32 % 65536).toInt32)), (1, .int (y1_47 + 1)), (5, .int ((w_truckAt ((l_renderDay σ6 y3_6).2) y4_47 y3_6))), (0, .ref (a)), (3, .int (y3_6))]) hx hb dL_isRota_150 hl (k := 6) rfl rfl (by decide) rfl (fun ls hl => ?_)
                                  refine lv_goto (tgt := 47) hx hb dL_isRota_153 (by decide) ?_
                                  refine W.widen (k := 23 + 68 * i_6 + 9 * (i_47 + 1)) (n := 858 + 1128 * i_6 + 54 * (i_47 + 1)) (by omega) (by omega) ?_
                                  exact ih_47 (y1_47 + 1) 1 (y4_47 + 1) (i_47 + 1) (by rw [hi_47, nI_1]) hlt_47 (by omega) (by first | exact fun h => absurd rfl h | exact fun _ => hv_47 (by assumption)) _ _ hP hS ls (lv_sub hl [5, 3, 1, 6, 0] rfl) hsp
                        · replace hsp := (if_pos c_87).symm.trans hsp
                          refine lv_bipush (v := 45) hx hb dL_isRota_90 (by decide) ?_
                          refine lv_goto (tgt := 101) hx hb dL_isRota_92 (by decide) ?_
                          refine lv_istore (lv' := [(6, .int (45)), (1, .int (y1_47 + 1)), (5, .int ((w_truckAt ((l_renderDay σ6 y3_6).2) y4_47 y3_6))), (0, .ref (a)), (2, .int (y2_47)), (3, .int (y3_6)), (4, .int (y4_47))]) hx hb dL_isRota_101 hl (by decide) rfl (fun ls hl => ?_)
                          refine lv_aload_n hx hb dL_isRota_103 rfl (lv_at hl 3 rfl) ?_
                          refine lv_iload hx hb dL_isRota_104 (lv_at hl 6 rfl) ?_
                          refine va_calli (va_runV (As := [.int (y4_47)]) (rest := []) ⟨hx, hb, hml, hown, hts⟩ (ft_noX (cl_outputAt l hl0 D Z k sz a ((l_renderDay σ6 y3_6).2) y4_47 (ft_ok1c (hJ.ok1 _ hJ_18_0)).1 (ft_ok1c (hJ.ok1 _ hJ_18_0)).2) (hJ.o_outputAt _ _ _ i_47 hj_6 (ft_nw hi_6 hl5_6) (hv_47 (by assumption)) hi_47 hl5_47)) (cwV 1 hts gL_isRota_X7_outputAt rfl rfl rfl (by decide +kernel) ⟨Nat.le_of_ble_eq_true rfl, Nat.le_of_ble_eq_true rfl⟩) (ft_preL hE hz hS hP) rfl rfl hl.1 rfl (lv_room (Nat.le_of_ble_eq_true rfl)) dL_isRota_106 ⟨(show 26 + 68 * i_6 + 9 * i_47 + 1 ≤ 476 by omega), (show 876 + 1128 * i_6 + 54 * i_47 + 6 ≤ 7896 by omega)⟩) hS (fun _ _ h => h) (fun _ h => h) (fun z u t H1 locs1 ht hvm hw hB hz1 hk1 hS1 => ?_)
                          obtain rfl : z = (p_outputAt ((l_renderDay σ6 y3_6).2) y4_47) := hw
                          rw [ht] at hB
                          have hP := hB
                          have hS := hS1
                          clear hS1
                          generalize H1 = H at hP hS ⊢
                          refine W.widen (k := 27 + 68 * i_6 + 9 * i_47) (n := 882 + 1128 * i_6 + 54 * i_47) (by omega) (by omega) ?_
                          refine lv_iload hx hb dL_isRota_109 (lv_at hl 0 rfl) ?_
                          refine lv_icmp_ne (tgt := 148) hx hb dL_isRota_111 (by decide) (fun c_111 => ?_) (fun c_111 => ?_)
                          · replace hsp := (if_neg c_111).symm.trans hsp
                            refine lv_iconst (v := 0) hx hb dL_isRota_148 (by decide) ?_
                            refine lv_istore_n (lv' := [(2, .int (0)), (6, .int (45)), (1, .int (y1_47 + 1)), (5, .int ((w_truckAt ((l_renderDay σ6 y3_6).2) y4_47 y3_6))), (0, .ref (a)), (3, .int (y3_6)), (4, .int (y4_47))]) hx hb dL_isRota_149 rfl hl (by decide) rfl (fun ls hl => ?_)
                            refine lv_iinc (v := y4_47 + 1) (lv' := [(4, .int (y4_47 + 1)), (2, .int (0)), (6, .int (45)), (1, .int (y1_47 + 1)), (5, .int ((w_truckAt ((l_renderDay σ6 y3_6).2) y4_47 y3_6))), (0, .ref (a)), (3, .int (y3_6))]) hx hb dL_isRota_150 hl (k := 6) rfl rfl (by decide) rfl (fun ls hl => ?_)
                            refine lv_goto (tgt := 47) hx hb dL_isRota_153 (by decide) ?_
                            refine W.widen (k := 23 + 68 * i_6 + 9 * (i_47 + 1)) (n := 858 + 1128 * i_6 + 54 * (i_47 + 1)) (by omega) (by omega) ?_
                            exact ih_47 (y1_47 + 1) 0 (y4_47 + 1) (i_47 + 1) (by rw [hi_47, nI_1]) hlt_47 (by omega) (by first | exact fun h => absurd rfl h | exact fun _ => hv_47 (by assumption)) _ _ hP hS ls (lv_sub hl [5, 3, 1, 6, 0] rfl) hsp
                          · replace hsp := (if_pos c_111).symm.trans hsp
                            refine lv_iload hx hb dL_isRota_114 (lv_at hl 2 rfl) ?_
                            refine lv_sipush (v := (-1000)) hx hb dL_isRota_116 (by decide) ?_
                            refine lv_icmp_eq (tgt := 144) hx hb dL_isRota_119 (by decide) (fun c_119 => ?_) (fun c_119 => ?_)
                            · replace hsp := (if_pos c_119).symm.trans hsp
                              refine lv_iconst (v := 1) hx hb dL_isRota_144 (by decide) ?_
                              refine lv_goto (tgt := 149) hx hb dL_isRota_145 (by decide) ?_
                              refine lv_istore_n (lv' := [(2, .int (1)), (6, .int (45)), (1, .int (y1_47 + 1)), (5, .int ((w_truckAt ((l_renderDay σ6 y3_6).2) y4_47 y3_6))), (0, .ref (a)), (3, .int (y3_6)), (4, .int (y4_47))]) hx hb dL_isRota_149 rfl hl (by decide) rfl (fun ls hl => ?_)
                              refine lv_iinc (v := y4_47 + 1) (lv' := [(4, .int (y4_47 + 1)), (2, .int (1)), (6, .int (45)), (1, .int (y1_47 + 1)), (5, .int ((w_truckAt ((l_renderDay σ6 y3_6).2) y4_47 y3_6))), (0, .ref (a)), (3, .int (y3_6))]) hx hb dL_isRota_150 hl (k := 6) rfl rfl (by decide) rfl (fun ls hl => ?_)
                              refine lv_goto (tgt := 47) hx hb dL_isRota_153 (by decide) ?_
                              refine W.widen (k := 23 + 68 * i_6 + 9 * (i_47 + 1)) (n := 858 + 1128 * i_6 + 54 * (i_47 + 1)) (by omega) (by omega) ?_
                              exact ih_47 (y1_47 + 1) 1 (y4_47 + 1) (i_47 + 1) (by rw [hi_47, nI_1]) hlt_47 (by omega) (by first | exact fun h => absurd rfl h | exact fun _ => hv_47 (by assumption)) _ _ hP hS ls (lv_sub hl [5, 3, 1, 6, 0] rfl) hsp
                            · replace hsp := (if_neg c_119).symm.trans hsp
                              refine lv_aload_n hx hb dL_isRota_122 rfl (lv_at hl 3 rfl) ?_
                              refine lv_iload hx hb dL_isRota_123 (lv_at hl 2 rfl) ?_
                              refine lv_iload_n hx hb dL_isRota_125 rfl (lv_at hl 5 rfl) ?_
                              refine va_calli (va_runV (As := [.int ((w_truckAt ((l_renderDay σ6 y3_6).2) y4_47 y3_6)), .int (y3_6)]) (rest := []) ⟨hx, hb, hml, hown, hts⟩ (ft_noX (cl_pitchOf l hl0 D Z k sz a ((l_renderDay σ6 y3_6).2) (w_truckAt ((l_renderDay σ6 y3_6).2) y4_47 y3_6) y3_6 ) (hJ.o_pitchOf _ _ _ hJ_18_0 (by assumption))) (cwV 2 hts gL_isRota_X7_pitchOf rfl rfl rfl (by decide +kernel) ⟨Nat.le_of_ble_eq_true rfl, Nat.le_of_ble_eq_true rfl⟩) (ft_preL hE hz hS hP) rfl rfl hl.1 rfl (lv_room (Nat.le_of_ble_eq_true rfl)) dL_isRota_126 ⟨(show 27 + 68 * i_6 + 9 * i_47 + 3 ≤ 476 by omega), (show 882 + 1128 * i_6 + 54 * i_47 + 18 ≤ 7896 by omega)⟩) hS (fun _ _ h => h) (fun _ h => h) (fun z u t H1 locs1 ht hvm hw hB hz1 hk1 hS1 => ?_)
                              obtain rfl : z = (p_pitchOf ((l_renderDay σ6 y3_6).2) (w_truckAt ((l_renderDay σ6 y3_6).2) y4_47 y3_6) y3_6) := hw
                              rw [ht] at hB
                              have hP := hB
                              have hS := hS1
                              clear hS1
                              generalize H1 = H at hP hS ⊢
                              refine W.widen (k := 30 + 68 * i_6 + 9 * i_47) (n := 900 + 1128 * i_6 + 54 * i_47) (by omega) (by omega) ?_
                              refine lv_iload hx hb dL_isRota_129 (lv_at hl 6 rfl) ?_
                              refine lv_icmp_ne (tgt := 148) hx hb dL_isRota_131 (by decide) (fun c_131 => ?_) (fun c_131 => ?_)
                              · replace hsp := (if_neg c_131).symm.trans hsp
                                refine lv_iconst (v := 0) hx hb dL_isRota_148 (by decide) ?_
                                refine lv_istore_n (lv' := [(2, .int (0)), (6, .int (45)), (1, .int (y1_47 + 1)), (5, .int ((w_truckAt ((l_renderDay σ6 y3_6).2) y4_47 y3_6))), (0, .ref (a)), (3, .int (y3_6)), (4, .int (y4_47))]) hx hb dL_isRota_149 rfl hl (by decide) rfl (fun ls hl => ?_)
                                refine lv_iinc (v := y4_47 + 1) (lv' := [(4, .int (y4_47 + 1)), (2, .int (0)), (6, .int (45)), (1, .int (y1_47 + 1)), (5, .int ((w_truckAt ((l_renderDay σ6 y3_6).2) y4_47 y3_6))), (0, .ref (a)), (3, .int (y3_6))]) hx hb dL_isRota_150 hl (k := 6) rfl rfl (by decide) rfl (fun ls hl => ?_)
                                refine lv_goto (tgt := 47) hx hb dL_isRota_153 (by decide) ?_
                                refine W.widen (k := 23 + 68 * i_6 + 9 * (i_47 + 1)) (n := 858 + 1128 * i_6 + 54 * (i_47 + 1)) (by omega) (by omega) ?_
                                exact ih_47 (y1_47 + 1) 0 (y4_47 + 1) (i_47 + 1) (by rw [hi_47, nI_1]) hlt_47 (by omega) (by first | exact fun h => absurd rfl h | exact fun _ => hv_47 (by assumption)) _ _ hP hS ls (lv_sub hl [5, 3, 1, 6, 0] rfl) hsp
                              · replace hsp := (if_pos c_131).symm.trans hsp
                                refine lv_aload_n hx hb dL_isRota_134 rfl (lv_at hl 3 rfl) ?_
                                refine lv_iload hx hb dL_isRota_135 (lv_at hl 2 rfl) ?_
                                refine lv_iload_n hx hb dL_isRota_137 rfl (lv_at hl 5 rfl) ?_
                                refine va_calli (va_runV (As := [.int ((w_truckAt ((l_renderDay σ6 y3_6).2) y4_47 y3_6)), .int (y3_6)]) (rest := []) ⟨hx, hb, hml, hown, hts⟩ (ft_noX (cl_hasPermit l hl0 D Z k sz a ((l_renderDay σ6 y3_6).2) (w_truckAt ((l_renderDay σ6 y3_6).2) y4_47 y3_6) y3_6 ) (ok_hasPermit (hJ.o_tA _ _ _ hJ_18_0 (by assumption)) (ft_nw hi_6 hl5_6))) (cwV 2 hts gL_isRota_X7_hasPermit rfl rfl rfl (by decide +kernel) ⟨Nat.le_of_ble_eq_true rfl, Nat.le_of_ble_eq_true rfl⟩) (ft_preL hE hz hS hP) rfl rfl hl.1 rfl (lv_room (Nat.le_of_ble_eq_true rfl)) dL_isRota_138 ⟨(show 30 + 68 * i_6 + 9 * i_47 + 2 ≤ 476 by omega), (show 900 + 1128 * i_6 + 54 * i_47 + 12 ≤ 7896 by omega)⟩) hS (fun _ _ h => h) (fun _ h => h) (fun z u t H1 locs1 ht hvm hw hB hz1 hk1 hS1 => ?_)
                                obtain rfl : z = (p_hasPermit ((l_renderDay σ6 y3_6).2) (w_truckAt ((l_renderDay σ6 y3_6).2) y4_47 y3_6) y3_6) := hw
                                rw [ht] at hB
                                have hP := hB
                                have hS := hS1
                                clear hS1
                                generalize H1 = H at hP hS ⊢
                                refine W.widen (k := 32 + 68 * i_6 + 9 * i_47) (n := 912 + 1128 * i_6 + 54 * i_47) (by omega) (by omega) ?_
                                refine lv_if_eq (tgt := 148) hx hb dL_isRota_141 (by decide) (fun c_141 => ?_) (fun c_141 => ?_)
                                · replace hsp := (if_pos c_141).symm.trans hsp
                                  refine lv_iconst (v := 0) hx hb dL_isRota_148 (by decide) ?_
                                  refine lv_istore_n (lv' := [(2, .int (0)), (6, .int (45)), (1, .int (y1_47 + 1)), (5, .int ((w_truckAt ((l_renderDay σ6 y3_6).2) y4_47 y3_6))), (0, .ref (a)), (3, .int (y3_6)), (4, .int (y4_47))]) hx hb dL_isRota_149 rfl hl (by decide) rfl (fun ls hl => ?_)
                                  refine lv_iinc (v := y4_47 + 1) (lv' := [(4, .int (y4_47 + 1)), (2, .int (0)), (6, .int (45)), (1, .int (y1_47 + 1)), (5, .int ((w_truckAt ((l_renderDay σ6 y3_6).2) y4_47 y3_6))), (0, .ref (a)), (3, .int (y3_6))]) hx hb dL_isRota_150 hl (k := 6) rfl rfl (by decide) rfl (fun ls hl => ?_)
                                  refine lv_goto (tgt := 47) hx hb dL_isRota_153 (by decide) ?_
                                  refine W.widen (k := 23 + 68 * i_6 + 9 * (i_47 + 1)) (n := 858 + 1128 * i_6 + 54 * (i_47 + 1)) (by omega) (by omega) ?_
                                  exact ih_47 (y1_47 + 1) 0 (y4_47 + 1) (i_47 + 1) (by rw [hi_47, nI_1]) hlt_47 (by omega) (by first | exact fun h => absurd rfl h | exact fun _ => hv_47 (by assumption)) _ _ hP hS ls (lv_sub hl [5, 3, 1, 6, 0] rfl) hsp
                                · replace hsp := (if_neg c_141).symm.trans hsp
                                  refine lv_iconst (v := 1) hx hb dL_isRota_144 (by decide) ?_
                                  refine lv_goto (tgt := 149) hx hb dL_isRota_145 (by decide) ?_
                                  refine lv_istore_n (lv' := [(2, .int (1)), (6, .int (45)), (1, .int (y1_47 + 1)), (5, .int ((w_truckAt ((l_renderDay σ6 y3_6).2) y4_47 y3_6))), (0, .ref (a)), (3, .int (y3_6)), (4, .int (y4_47))]) hx hb dL_isRota_149 rfl hl (by decide) rfl (fun ls hl => ?_)
                                  refine lv_iinc (v := y4_47 + 1) (lv' := [(4, .int (y4_47 + 1)), (2, .int (1)), (6, .int (45)), (1, .int (y1_47 + 1)), (5, .int ((w_truckAt ((l_renderDay σ6 y3_6).2) y4_47 y3_6))), (0, .ref (a)), (3, .int (y3_6))]) hx hb dL_isRota_150 hl (k := 6) rfl rfl (by decide) rfl (fun ls hl => ?_)
                                  refine lv_goto (tgt := 47) hx hb dL_isRota_153 (by decide) ?_
                                  refine W.widen (k := 23 + 68 * i_6 + 9 * (i_47 + 1)) (n := 858 + 1128 * i_6 + 54 * (i_47 + 1)) (by omega) (by omega) ?_
                                  exact ih_47 (y1_47 + 1) 1 (y4_47 + 1) (i_47 + 1) (by rw [hi_47, nI_1]) hlt_47 (by omega) (by first | exact fun h => absurd rfl h | exact fun _ => hv_47 (by assumption)) _ _ hP hS ls (lv_sub hl [5, 3, 1, 6, 0] rfl) hsp
                      · replace hsp := (if_pos c_72).symm.trans hsp
                        refine lv_iconst (v := 0) hx hb dL_isRota_75 (by decide) ?_
                        refine lv_goto (tgt := 80) hx hb dL_isRota_76 (by decide) ?_
                        refine lv_iadd hx hb dL_isRota_80 ?_
                        refine lv_istore_n (lv' := [(1, .int (y1_47 + 0)), (5, .int ((w_truckAt ((l_renderDay σ6 y3_6).2) y4_47 y3_6))), (0, .ref (a)), (2, .int (y2_47)), (3, .int (y3_6)), (4, .int (y4_47))]) hx hb dL_isRota_81 rfl hl (by decide) rfl (fun ls hl => ?_)
                        refine lv_iload hx hb dL_isRota_82 (lv_at hl 1 rfl) ?_
                        refine lv_sipush (v := (-1000)) hx hb dL_isRota_84 (by decide) ?_
                        refine lv_icmp_ne (tgt := 95) hx hb dL_isRota_87 (by decide) (fun c_87 => ?_) (fun c_87 => ?_)
                        · replace hsp := (if_neg c_87).symm.trans hsp
                          refine lv_bipush (v := 48) hx hb dL_isRota_95 (by decide) ?_
                          refine lv_iload hx hb dL_isRota_97 (lv_at hl 1 rfl) ?_
                          refine lv_iadd hx hb dL_isRota_99 ?_
                          refine lv_i2c (v := ((48 + (w_truckAt ((l_renderDay σ6 y3_6).2) y4_47 y3_6)).toUInt32 % 65536).toInt32) hx hb dL_isRota_100 rfl ?_
                          refine lv_istore (lv' := [(6, .int (((48 + (w_truckAt ((l_renderDay σ6 y3_6).2) y4_47 y3_6)).toUInt32 % 65536).toInt32)), (1, .int (y1_47 + 0)), (5, .int ((w_truckAt ((l_renderDay σ6 y3_6).2) y4_47 y3_6))), (0, .ref (a)), (2, .int (y2_47)), (3, .int (y3_6)), (4, .int (y4_47))]) hx hb dL_isRota_101 hl (by decide) rfl (fun ls hl => ?_)
                          refine lv_aload_n hx hb dL_isRota_103 rfl (lv_at hl 3 rfl) ?_
                          refine lv_iload hx hb dL_isRota_104 (lv_at hl 6 rfl) ?_
                          refine va_calli (va_runV (As := [.int (y4_47)]) (rest := []) ⟨hx, hb, hml, hown, hts⟩ (ft_noX (cl_outputAt l hl0 D Z k sz a ((l_renderDay σ6 y3_6).2) y4_47 (ft_ok1c (hJ.ok1 _ hJ_18_0)).1 (ft_ok1c (hJ.ok1 _ hJ_18_0)).2) (hJ.o_outputAt _ _ _ i_47 hj_6 (ft_nw hi_6 hl5_6) (hv_47 (by assumption)) hi_47 hl5_47)) (cwV 1 hts gL_isRota_X7_outputAt rfl rfl rfl (by decide +kernel) ⟨Nat.le_of_ble_eq_true rfl, Nat.le_of_ble_eq_true rfl⟩) (ft_preL hE hz hS hP) rfl rfl hl.1 rfl (lv_room (Nat.le_of_ble_eq_true rfl)) dL_isRota_106 ⟨(show 26 + 68 * i_6 + 9 * i_47 + 1 ≤ 476 by omega), (show 876 + 1128 * i_6 + 54 * i_47 + 6 ≤ 7896 by omega)⟩) hS (fun _ _ h => h) (fun _ h => h) (fun z u t H1 locs1 ht hvm hw hB hz1 hk1 hS1 => ?_)
                          obtain rfl : z = (p_outputAt ((l_renderDay σ6 y3_6).2) y4_47) := hw
                          rw [ht] at hB
                          have hP := hB
                          have hS := hS1
                          clear hS1
                          generalize H1 = H at hP hS ⊢
                          refine W.widen (k := 27 + 68 * i_6 + 9 * i_47) (n := 882 + 1128 * i_6 + 54 * i_47) (by omega) (by omega) ?_
                          refine lv_iload hx hb dL_isRota_109 (lv_at hl 0 rfl) ?_
                          refine lv_icmp_ne (tgt := 148) hx hb dL_isRota_111 (by decide) (fun c_111 => ?_) (fun c_111 => ?_)
                          · replace hsp := (if_neg c_111).symm.trans hsp
                            refine lv_iconst (v := 0) hx hb dL_isRota_148 (by decide) ?_
                            refine lv_istore_n (lv' := [(2, .int (0)), (6, .int (((48 + (w_truckAt ((l_renderDay σ6 y3_6).2) y4_47 y3_6)).toUInt32 % 65536).toInt32)), (1, .int (y1_47 + 0)), (5, .int ((w_truckAt ((l_renderDay σ6 y3_6).2) y4_47 y3_6))), (0, .ref (a)), (3, .int (y3_6)), (4, .int (y4_47))]) hx hb dL_isRota_149 rfl hl (by decide) rfl (fun ls hl => ?_)
                            refine lv_iinc (v := y4_47 + 1) (lv' := [(4, .int (y4_47 + 1)), (2, .int (0)), (6, .int (((48 + (w_truckAt ((l_renderDay σ6 y3_6).2) y4_47 y3_6)).toUInt32 % 65536).toInt32)), (1, .int (y1_47 + 0)), (5, .int ((w_truckAt ((l_renderDay σ6 y3_6).2) y4_47 y3_6))), (0, .ref (a)), (3, .int (y3_6))]) hx hb dL_isRota_150 hl (k := 6) rfl rfl (by decide) rfl (fun ls hl => ?_)
                            refine lv_goto (tgt := 47) hx hb dL_isRota_153 (by decide) ?_
                            refine W.widen (k := 23 + 68 * i_6 + 9 * (i_47 + 1)) (n := 858 + 1128 * i_6 + 54 * (i_47 + 1)) (by omega) (by omega) ?_
                            exact ih_47 (y1_47 + 0) 0 (y4_47 + 1) (i_47 + 1) (by rw [hi_47, nI_1]) hlt_47 (by omega) (by first | exact fun h => absurd rfl h | exact fun _ => hv_47 (by assumption)) _ _ hP hS ls (lv_sub hl [5, 3, 1, 6, 0] rfl) hsp
                          · replace hsp := (if_pos c_111).symm.trans hsp
                            refine lv_iload hx hb dL_isRota_114 (lv_at hl 2 rfl) ?_
                            refine lv_sipush (v := (-1000)) hx hb dL_isRota_116 (by decide) ?_
                            refine lv_icmp_eq (tgt := 144) hx hb dL_isRota_119 (by decide) (fun c_119 => ?_) (fun c_119 => ?_)
                            · replace hsp := (if_pos c_119).symm.trans hsp
                              refine lv_iconst (v := 1) hx hb dL_isRota_144 (by decide) ?_
                              refine lv_goto (tgt := 149) hx hb dL_isRota_145 (by decide) ?_
                              refine lv_istore_n (lv' := [(2, .int (1)), (6, .int (((48 + (w_truckAt ((l_renderDay σ6 y3_6).2) y4_47 y3_6)).toUInt32 % 65536).toInt32)), (1, .int (y1_47 + 0)), (5, .int ((w_truckAt ((l_renderDay σ6 y3_6).2) y4_47 y3_6))), (0, .ref (a)), (3, .int (y3_6)), (4, .int (y4_47))]) hx hb dL_isRota_149 rfl hl (by decide) rfl (fun ls hl => ?_)
                              refine lv_iinc (v := y4_47 + 1) (lv' := [(4, .int (y4_47 + 1)), (2, .int (1)), (6, .int (((48 + (w_truckAt ((l_renderDay σ6 y3_6).2) y4_47 y3_6)).toUInt32 % 65536).toInt32)), (1, .int (y1_47 + 0)), (5, .int ((w_truckAt ((l_renderDay σ6 y3_6).2) y4_47 y3_6))), (0, .ref (a)), (3, .int (y3_6))]) hx hb dL_isRota_150 hl (k := 6) rfl rfl (by decide) rfl (fun ls hl => ?_)
                              refine lv_goto (tgt := 47) hx hb dL_isRota_153 (by decide) ?_
                              refine W.widen (k := 23 + 68 * i_6 + 9 * (i_47 + 1)) (n := 858 + 1128 * i_6 + 54 * (i_47 + 1)) (by omega) (by omega) ?_
                              exact ih_47 (y1_47 + 0) 1 (y4_47 + 1) (i_47 + 1) (by rw [hi_47, nI_1]) hlt_47 (by omega) (by first | exact fun h => absurd rfl h | exact fun _ => hv_47 (by assumption)) _ _ hP hS ls (lv_sub hl [5, 3, 1, 6, 0] rfl) hsp
                            · replace hsp := (if_neg c_119).symm.trans hsp
                              refine lv_aload_n hx hb dL_isRota_122 rfl (lv_at hl 3 rfl) ?_
                              refine lv_iload hx hb dL_isRota_123 (lv_at hl 2 rfl) ?_
                              refine lv_iload_n hx hb dL_isRota_125 rfl (lv_at hl 5 rfl) ?_
                              refine va_calli (va_runV (As := [.int ((w_truckAt ((l_renderDay σ6 y3_6).2) y4_47 y3_6)), .int (y3_6)]) (rest := []) ⟨hx, hb, hml, hown, hts⟩ (ft_noX (cl_pitchOf l hl0 D Z k sz a ((l_renderDay σ6 y3_6).2) (w_truckAt ((l_renderDay σ6 y3_6).2) y4_47 y3_6) y3_6 ) (hJ.o_pitchOf _ _ _ hJ_18_0 (by assumption))) (cwV 2 hts gL_isRota_X7_pitchOf rfl rfl rfl (by decide +kernel) ⟨Nat.le_of_ble_eq_true rfl, Nat.le_of_ble_eq_true rfl⟩) (ft_preL hE hz hS hP) rfl rfl hl.1 rfl (lv_room (Nat.le_of_ble_eq_true rfl)) dL_isRota_126 ⟨(show 27 + 68 * i_6 + 9 * i_47 + 3 ≤ 476 by omega), (show 882 + 1128 * i_6 + 54 * i_47 + 18 ≤ 7896 by omega)⟩) hS (fun _ _ h => h) (fun _ h => h) (fun z u t H1 locs1 ht hvm hw hB hz1 hk1 hS1 => ?_)
                              obtain rfl : z = (p_pitchOf ((l_renderDay σ6 y3_6).2) (w_truckAt ((l_renderDay σ6 y3_6).2) y4_47 y3_6) y3_6) := hw
                              rw [ht] at hB
                              have hP := hB
                              have hS := hS1
                              clear hS1
                              generalize H1 = H at hP hS ⊢
                              refine W.widen (k := 30 + 68 * i_6 + 9 * i_47) (n := 900 + 1128 * i_6 + 54 * i_47) (by omega) (by omega) ?_
                              refine lv_iload hx hb dL_isRota_129 (lv_at hl 6 rfl) ?_
                              refine lv_icmp_ne (tgt := 148) hx hb dL_isRota_131 (by decide) (fun c_131 => ?_) (fun c_131 => ?_)
                              · replace hsp := (if_neg c_131).symm.trans hsp
                                refine lv_iconst (v := 0) hx hb dL_isRota_148 (by decide) ?_
                                refine lv_istore_n (lv' := [(2, .int (0)), (6, .int (((48 + (w_truckAt ((l_renderDay σ6 y3_6).2) y4_47 y3_6)).toUInt32 % 65536).toInt32)), (1, .int (y1_47 + 0)), (5, .int ((w_truckAt ((l_renderDay σ6 y3_6).2) y4_47 y3_6))), (0, .ref (a)), (3, .int (y3_6)), (4, .int (y4_47))]) hx hb dL_isRota_149 rfl hl (by decide) rfl (fun ls hl => ?_)
                                refine lv_iinc (v := y4_47 + 1) (lv' := [(4, .int (y4_47 + 1)), (2, .int (0)), (6, .int (((48 + (w_truckAt ((l_renderDay σ6 y3_6).2) y4_47 y3_6)).toUInt32 % 65536).toInt32)), (1, .int (y1_47 + 0)), (5, .int ((w_truckAt ((l_renderDay σ6 y3_6).2) y4_47 y3_6))), (0, .ref (a)), (3, .int (y3_6))]) hx hb dL_isRota_150 hl (k := 6) rfl rfl (by decide) rfl (fun ls hl => ?_)
                                refine lv_goto (tgt := 47) hx hb dL_isRota_153 (by decide) ?_
                                refine W.widen (k := 23 + 68 * i_6 + 9 * (i_47 + 1)) (n := 858 + 1128 * i_6 + 54 * (i_47 + 1)) (by omega) (by omega) ?_
                                exact ih_47 (y1_47 + 0) 0 (y4_47 + 1) (i_47 + 1) (by rw [hi_47, nI_1]) hlt_47 (by omega) (by first | exact fun h => absurd rfl h | exact fun _ => hv_47 (by assumption)) _ _ hP hS ls (lv_sub hl [5, 3, 1, 6, 0] rfl) hsp
                              · replace hsp := (if_pos c_131).symm.trans hsp
                                refine lv_aload_n hx hb dL_isRota_134 rfl (lv_at hl 3 rfl) ?_
                                refine lv_iload hx hb dL_isRota_135 (lv_at hl 2 rfl) ?_
                                refine lv_iload_n hx hb dL_isRota_137 rfl (lv_at hl 5 rfl) ?_
                                refine va_calli (va_runV (As := [.int ((w_truckAt ((l_renderDay σ6 y3_6).2) y4_47 y3_6)), .int (y3_6)]) (rest := []) ⟨hx, hb, hml, hown, hts⟩ (ft_noX (cl_hasPermit l hl0 D Z k sz a ((l_renderDay σ6 y3_6).2) (w_truckAt ((l_renderDay σ6 y3_6).2) y4_47 y3_6) y3_6 ) (ok_hasPermit (hJ.o_tA _ _ _ hJ_18_0 (by assumption)) (ft_nw hi_6 hl5_6))) (cwV 2 hts gL_isRota_X7_hasPermit rfl rfl rfl (by decide +kernel) ⟨Nat.le_of_ble_eq_true rfl, Nat.le_of_ble_eq_true rfl⟩) (ft_preL hE hz hS hP) rfl rfl hl.1 rfl (lv_room (Nat.le_of_ble_eq_true rfl)) dL_isRota_138 ⟨(show 30 + 68 * i_6 + 9 * i_47 + 2 ≤ 476 by omega), (show 900 + 1128 * i_6 + 54 * i_47 + 12 ≤ 7896 by omega)⟩) hS (fun _ _ h => h) (fun _ h => h) (fun z u t H1 locs1 ht hvm hw hB hz1 hk1 hS1 => ?_)
                                obtain rfl : z = (p_hasPermit ((l_renderDay σ6 y3_6).2) (w_truckAt ((l_renderDay σ6 y3_6).2) y4_47 y3_6) y3_6) := hw
                                rw [ht] at hB
                                have hP := hB
                                have hS := hS1
                                clear hS1
                                generalize H1 = H at hP hS ⊢
                                refine W.widen (k := 32 + 68 * i_6 + 9 * i_47) (n := 912 + 1128 * i_6 + 54 * i_47) (by omega) (by omega) ?_
                                refine lv_if_eq (tgt := 148) hx hb dL_isRota_141 (by decide) (fun c_141 => ?_) (fun c_141 => ?_)
                                · replace hsp := (if_pos c_141).symm.trans hsp
                                  refine lv_iconst (v := 0) hx hb dL_isRota_148 (by decide) ?_
                                  refine lv_istore_n (lv' := [(2, .int (0)), (6, .int (((48 + (w_truckAt ((l_renderDay σ6 y3_6).2) y4_47 y3_6)).toUInt32 % 65536).toInt32)), (1, .int (y1_47 + 0)), (5, .int ((w_truckAt ((l_renderDay σ6 y3_6).2) y4_47 y3_6))), (0, .ref (a)), (3, .int (y3_6)), (4, .int (y4_47))]) hx hb dL_isRota_149 rfl hl (by decide) rfl (fun ls hl => ?_)
                                  refine lv_iinc (v := y4_47 + 1) (lv' := [(4, .int (y4_47 + 1)), (2, .int (0)), (6, .int (((48 + (w_truckAt ((l_renderDay σ6 y3_6).2) y4_47 y3_6)).toUInt32 % 65536).toInt32)), (1, .int (y1_47 + 0)), (5, .int ((w_truckAt ((l_renderDay σ6 y3_6).2) y4_47 y3_6))), (0, .ref (a)), (3, .int (y3_6))]) hx hb dL_isRota_150 hl (k := 6) rfl rfl (by decide) rfl (fun ls hl => ?_)
                                  refine lv_goto (tgt := 47) hx hb dL_isRota_153 (by decide) ?_
                                  refine W.widen (k := 23 + 68 * i_6 + 9 * (i_47 + 1)) (n := 858 + 1128 * i_6 + 54 * (i_47 + 1)) (by omega) (by omega) ?_
                                  exact ih_47 (y1_47 + 0) 0 (y4_47 + 1) (i_47 + 1) (by rw [hi_47, nI_1]) hlt_47 (by omega) (by first | exact fun h => absurd rfl h | exact fun _ => hv_47 (by assumption)) _ _ hP hS ls (lv_sub hl [5, 3, 1, 6, 0] rfl) hsp
                                · replace hsp := (if_neg c_141).symm.trans hsp
                                  refine lv_iconst (v := 1) hx hb dL_isRota_144 (by decide) ?_
                                  refine lv_goto (tgt := 149) hx hb dL_isRota_145 (by decide) ?_
                                  refine lv_istore_n (lv' := [(2, .int (1)), (6, .int (((48 + (w_truckAt ((l_renderDay σ6 y3_6).2) y4_47 y3_6)).toUInt32 % 65536).toInt32)), (1, .int (y1_47 + 0)), (5, .int ((w_truckAt ((l_renderDay σ6 y3_6).2) y4_47 y3_6))), (0, .ref (a)), (3, .int (y3_6)), (4, .int (y4_47))]) hx hb dL_isRota_149 rfl hl (by decide) rfl (fun ls hl => ?_)
                                  refine lv_iinc (v := y4_47 + 1) (lv' := [(4, .int (y4_47 + 1)), (2, .int (1)), (6, .int (((48 + (w_truckAt ((l_renderDay σ6 y3_6).2) y4_47 y3_6)).toUInt32 % 65536).toInt32)), (1, .int (y1_47 + 0)), (5, .int ((w_truckAt ((l_renderDay σ6 y3_6).2) y4_47 y3_6))), (0, .ref (a)), (3, .int (y3_6))]) hx hb dL_isRota_150 hl (k := 6) rfl rfl (by decide) rfl (fun ls hl => ?_)
                                  refine lv_goto (tgt := 47) hx hb dL_isRota_153 (by decide) ?_
                                  refine W.widen (k := 23 + 68 * i_6 + 9 * (i_47 + 1)) (n := 858 + 1128 * i_6 + 54 * (i_47 + 1)) (by omega) (by omega) ?_
                                  exact ih_47 (y1_47 + 0) 1 (y4_47 + 1) (i_47 + 1) (by rw [hi_47, nI_1]) hlt_47 (by omega) (by first | exact fun h => absurd rfl h | exact fun _ => hv_47 (by assumption)) _ _ hP hS ls (lv_sub hl [5, 3, 1, 6, 0] rfl) hsp
                        · replace hsp := (if_pos c_87).symm.trans hsp
                          refine lv_bipush (v := 45) hx hb dL_isRota_90 (by decide) ?_
                          refine lv_goto (tgt := 101) hx hb dL_isRota_92 (by decide) ?_
                          refine lv_istore (lv' := [(6, .int (45)), (1, .int (y1_47 + 0)), (5, .int ((w_truckAt ((l_renderDay σ6 y3_6).2) y4_47 y3_6))), (0, .ref (a)), (2, .int (y2_47)), (3, .int (y3_6)), (4, .int (y4_47))]) hx hb dL_isRota_101 hl (by decide) rfl (fun ls hl => ?_)
                          refine lv_aload_n hx hb dL_isRota_103 rfl (lv_at hl 3 rfl) ?_
                          refine lv_iload hx hb dL_isRota_104 (lv_at hl 6 rfl) ?_
                          refine va_calli (va_runV (As := [.int (y4_47)]) (rest := []) ⟨hx, hb, hml, hown, hts⟩ (ft_noX (cl_outputAt l hl0 D Z k sz a ((l_renderDay σ6 y3_6).2) y4_47 (ft_ok1c (hJ.ok1 _ hJ_18_0)).1 (ft_ok1c (hJ.ok1 _ hJ_18_0)).2) (hJ.o_outputAt _ _ _ i_47 hj_6 (ft_nw hi_6 hl5_6) (hv_47 (by assumption)) hi_47 hl5_47)) (cwV 1 hts gL_isRota_X7_outputAt rfl rfl rfl (by decide +kernel) ⟨Nat.le_of_ble_eq_true rfl, Nat.le_of_ble_eq_true rfl⟩) (ft_preL hE hz hS hP) rfl rfl hl.1 rfl (lv_room (Nat.le_of_ble_eq_true rfl)) dL_isRota_106 ⟨(show 26 + 68 * i_6 + 9 * i_47 + 1 ≤ 476 by omega), (show 876 + 1128 * i_6 + 54 * i_47 + 6 ≤ 7896 by omega)⟩) hS (fun _ _ h => h) (fun _ h => h) (fun z u t H1 locs1 ht hvm hw hB hz1 hk1 hS1 => ?_)
                          obtain rfl : z = (p_outputAt ((l_renderDay σ6 y3_6).2) y4_47) := hw
                          rw [ht] at hB
                          have hP := hB
                          have hS := hS1
                          clear hS1
                          generalize H1 = H at hP hS ⊢
                          refine W.widen (k := 27 + 68 * i_6 + 9 * i_47) (n := 882 + 1128 * i_6 + 54 * i_47) (by omega) (by omega) ?_
                          refine lv_iload hx hb dL_isRota_109 (lv_at hl 0 rfl) ?_
                          refine lv_icmp_ne (tgt := 148) hx hb dL_isRota_111 (by decide) (fun c_111 => ?_) (fun c_111 => ?_)
                          · replace hsp := (if_neg c_111).symm.trans hsp
                            refine lv_iconst (v := 0) hx hb dL_isRota_148 (by decide) ?_
                            refine lv_istore_n (lv' := [(2, .int (0)), (6, .int (45)), (1, .int (y1_47 + 0)), (5, .int ((w_truckAt ((l_renderDay σ6 y3_6).2) y4_47 y3_6))), (0, .ref (a)), (3, .int (y3_6)), (4, .int (y4_47))]) hx hb dL_isRota_149 rfl hl (by decide) rfl (fun ls hl => ?_)
                            refine lv_iinc (v := y4_47 + 1) (lv' := [(4, .int (y4_47 + 1)), (2, .int (0)), (6, .int (45)), (1, .int (y1_47 + 0)), (5, .int ((w_truckAt ((l_renderDay σ6 y3_6).2) y4_47 y3_6))), (0, .ref (a)), (3, .int (y3_6))]) hx hb dL_isRota_150 hl (k := 6) rfl rfl (by decide) rfl (fun ls hl => ?_)
                            refine lv_goto (tgt := 47) hx hb dL_isRota_153 (by decide) ?_
                            refine W.widen (k := 23 + 68 * i_6 + 9 * (i_47 + 1)) (n := 858 + 1128 * i_6 + 54 * (i_47 + 1)) (by omega) (by omega) ?_
                            exact ih_47 (y1_47 + 0) 0 (y4_47 + 1) (i_47 + 1) (by rw [hi_47, nI_1]) hlt_47 (by omega) (by first | exact fun h => absurd rfl h | exact fun _ => hv_47 (by assumption)) _ _ hP hS ls (lv_sub hl [5, 3, 1, 6, 0] rfl) hsp
                          · replace hsp := (if_pos c_111).symm.trans hsp
                            refine lv_iload hx hb dL_isRota_114 (lv_at hl 2 rfl) ?_
                            refine lv_sipush (v := (-1000)) hx hb dL_isRota_116 (by decide) ?_
                            refine lv_icmp_eq (tgt := 144) hx hb dL_isRota_119 (by decide) (fun c_119 => ?_) (fun c_119 => ?_)
                            · replace hsp := (if_pos c_119).symm.trans hsp
                              refine lv_iconst (v := 1) hx hb dL_isRota_144 (by decide) ?_
                              refine lv_goto (tgt := 149) hx hb dL_isRota_145 (by decide) ?_
                              refine lv_istore_n (lv' := [(2, .int (1)), (6, .int (45)), (1, .int (y1_47 + 0)), (5, .int ((w_truckAt ((l_renderDay σ6 y3_6).2) y4_47 y3_6))), (0, .ref (a)), (3, .int (y3_6)), (4, .int (y4_47))]) hx hb dL_isRota_149 rfl hl (by decide) rfl (fun ls hl => ?_)
                              refine lv_iinc (v := y4_47 + 1) (lv' := [(4, .int (y4_47 + 1)), (2, .int (1)), (6, .int (45)), (1, .int (y1_47 + 0)), (5, .int ((w_truckAt ((l_renderDay σ6 y3_6).2) y4_47 y3_6))), (0, .ref (a)), (3, .int (y3_6))]) hx hb dL_isRota_150 hl (k := 6) rfl rfl (by decide) rfl (fun ls hl => ?_)
                              refine lv_goto (tgt := 47) hx hb dL_isRota_153 (by decide) ?_
                              refine W.widen (k := 23 + 68 * i_6 + 9 * (i_47 + 1)) (n := 858 + 1128 * i_6 + 54 * (i_47 + 1)) (by omega) (by omega) ?_
                              exact ih_47 (y1_47 + 0) 1 (y4_47 + 1) (i_47 + 1) (by rw [hi_47, nI_1]) hlt_47 (by omega) (by first | exact fun h => absurd rfl h | exact fun _ => hv_47 (by assumption)) _ _ hP hS ls (lv_sub hl [5, 3, 1, 6, 0] rfl) hsp
                            · replace hsp := (if_neg c_119).symm.trans hsp
                              refine lv_aload_n hx hb dL_isRota_122 rfl (lv_at hl 3 rfl) ?_
                              refine lv_iload hx hb dL_isRota_123 (lv_at hl 2 rfl) ?_
                              refine lv_iload_n hx hb dL_isRota_125 rfl (lv_at hl 5 rfl) ?_
                              refine va_calli (va_runV (As := [.int ((w_truckAt ((l_renderDay σ6 y3_6).2) y4_47 y3_6)), .int (y3_6)]) (rest := []) ⟨hx, hb, hml, hown, hts⟩ (ft_noX (cl_pitchOf l hl0 D Z k sz a ((l_renderDay σ6 y3_6).2) (w_truckAt ((l_renderDay σ6 y3_6).2) y4_47 y3_6) y3_6 ) (hJ.o_pitchOf _ _ _ hJ_18_0 (by assumption))) (cwV 2 hts gL_isRota_X7_pitchOf rfl rfl rfl (by decide +kernel) ⟨Nat.le_of_ble_eq_true rfl, Nat.le_of_ble_eq_true rfl⟩) (ft_preL hE hz hS hP) rfl rfl hl.1 rfl (lv_room (Nat.le_of_ble_eq_true rfl)) dL_isRota_126 ⟨(show 27 + 68 * i_6 + 9 * i_47 + 3 ≤ 476 by omega), (show 882 + 1128 * i_6 + 54 * i_47 + 18 ≤ 7896 by omega)⟩) hS (fun _ _ h => h) (fun _ h => h) (fun z u t H1 locs1 ht hvm hw hB hz1 hk1 hS1 => ?_)
                              obtain rfl : z = (p_pitchOf ((l_renderDay σ6 y3_6).2) (w_truckAt ((l_renderDay σ6 y3_6).2) y4_47 y3_6) y3_6) := hw
                              rw [ht] at hB
                              have hP := hB
                              have hS := hS1
                              clear hS1
                              generalize H1 = H at hP hS ⊢
                              refine W.widen (k := 30 + 68 * i_6 + 9 * i_47) (n := 900 + 1128 * i_6 + 54 * i_47) (by omega) (by omega) ?_
                              refine lv_iload hx hb dL_isRota_129 (lv_at hl 6 rfl) ?_
                              refine lv_icmp_ne (tgt := 148) hx hb dL_isRota_131 (by decide) (fun c_131 => ?_) (fun c_131 => ?_)
                              · replace hsp := (if_neg c_131).symm.trans hsp
                                refine lv_iconst (v := 0) hx hb dL_isRota_148 (by decide) ?_
                                refine lv_istore_n (lv' := [(2, .int (0)), (6, .int (45)), (1, .int (y1_47 + 0)), (5, .int ((w_truckAt ((l_renderDay σ6 y3_6).2) y4_47 y3_6))), (0, .ref (a)), (3, .int (y3_6)), (4, .int (y4_47))]) hx hb dL_isRota_149 rfl hl (by decide) rfl (fun ls hl => ?_)
                                refine lv_iinc (v := y4_47 + 1) (lv' := [(4, .int (y4_47 + 1)), (2, .int (0)), (6, .int (45)), (1, .int (y1_47 + 0)), (5, .int ((w_truckAt ((l_renderDay σ6 y3_6).2) y4_47 y3_6))), (0, .ref (a)), (3, .int (y3_6))]) hx hb dL_isRota_150 hl (k := 6) rfl rfl (by decide) rfl (fun ls hl => ?_)
                                refine lv_goto (tgt := 47) hx hb dL_isRota_153 (by decide) ?_
                                refine W.widen (k := 23 + 68 * i_6 + 9 * (i_47 + 1)) (n := 858 + 1128 * i_6 + 54 * (i_47 + 1)) (by omega) (by omega) ?_
                                exact ih_47 (y1_47 + 0) 0 (y4_47 + 1) (i_47 + 1) (by rw [hi_47, nI_1]) hlt_47 (by omega) (by first | exact fun h => absurd rfl h | exact fun _ => hv_47 (by assumption)) _ _ hP hS ls (lv_sub hl [5, 3, 1, 6, 0] rfl) hsp
                              · replace hsp := (if_pos c_131).symm.trans hsp
                                refine lv_aload_n hx hb dL_isRota_134 rfl (lv_at hl 3 rfl) ?_
                                refine lv_iload hx hb dL_isRota_135 (lv_at hl 2 rfl) ?_
                                refine lv_iload_n hx hb dL_isRota_137 rfl (lv_at hl 5 rfl) ?_
                                refine va_calli (va_runV (As := [.int ((w_truckAt ((l_renderDay σ6 y3_6).2) y4_47 y3_6)), .int (y3_6)]) (rest := []) ⟨hx, hb, hml, hown, hts⟩ (ft_noX (cl_hasPermit l hl0 D Z k sz a ((l_renderDay σ6 y3_6).2) (w_truckAt ((l_renderDay σ6 y3_6).2) y4_47 y3_6) y3_6 ) (ok_hasPermit (hJ.o_tA _ _ _ hJ_18_0 (by assumption)) (ft_nw hi_6 hl5_6))) (cwV 2 hts gL_isRota_X7_hasPermit rfl rfl rfl (by decide +kernel) ⟨Nat.le_of_ble_eq_true rfl, Nat.le_of_ble_eq_true rfl⟩) (ft_preL hE hz hS hP) rfl rfl hl.1 rfl (lv_room (Nat.le_of_ble_eq_true rfl)) dL_isRota_138 ⟨(show 30 + 68 * i_6 + 9 * i_47 + 2 ≤ 476 by omega), (show 900 + 1128 * i_6 + 54 * i_47 + 12 ≤ 7896 by omega)⟩) hS (fun _ _ h => h) (fun _ h => h) (fun z u t H1 locs1 ht hvm hw hB hz1 hk1 hS1 => ?_)
                                obtain rfl : z = (p_hasPermit ((l_renderDay σ6 y3_6).2) (w_truckAt ((l_renderDay σ6 y3_6).2) y4_47 y3_6) y3_6) := hw
                                rw [ht] at hB
                                have hP := hB
                                have hS := hS1
                                clear hS1
                                generalize H1 = H at hP hS ⊢
                                refine W.widen (k := 32 + 68 * i_6 + 9 * i_47) (n := 912 + 1128 * i_6 + 54 * i_47) (by omega) (by omega) ?_
                                refine lv_if_eq (tgt := 148) hx hb dL_isRota_141 (by decide) (fun c_141 => ?_) (fun c_141 => ?_)
                                · replace hsp := (if_pos c_141).symm.trans hsp
                                  refine lv_iconst (v := 0) hx hb dL_isRota_148 (by decide) ?_
                                  refine lv_istore_n (lv' := [(2, .int (0)), (6, .int (45)), (1, .int (y1_47 + 0)), (5, .int ((w_truckAt ((l_renderDay σ6 y3_6).2) y4_47 y3_6))), (0, .ref (a)), (3, .int (y3_6)), (4, .int (y4_47))]) hx hb dL_isRota_149 rfl hl (by decide) rfl (fun ls hl => ?_)
                                  refine lv_iinc (v := y4_47 + 1) (lv' := [(4, .int (y4_47 + 1)), (2, .int (0)), (6, .int (45)), (1, .int (y1_47 + 0)), (5, .int ((w_truckAt ((l_renderDay σ6 y3_6).2) y4_47 y3_6))), (0, .ref (a)), (3, .int (y3_6))]) hx hb dL_isRota_150 hl (k := 6) rfl rfl (by decide) rfl (fun ls hl => ?_)
                                  refine lv_goto (tgt := 47) hx hb dL_isRota_153 (by decide) ?_
                                  refine W.widen (k := 23 + 68 * i_6 + 9 * (i_47 + 1)) (n := 858 + 1128 * i_6 + 54 * (i_47 + 1)) (by omega) (by omega) ?_
                                  exact ih_47 (y1_47 + 0) 0 (y4_47 + 1) (i_47 + 1) (by rw [hi_47, nI_1]) hlt_47 (by omega) (by first | exact fun h => absurd rfl h | exact fun _ => hv_47 (by assumption)) _ _ hP hS ls (lv_sub hl [5, 3, 1, 6, 0] rfl) hsp
                                · replace hsp := (if_neg c_141).symm.trans hsp
                                  refine lv_iconst (v := 1) hx hb dL_isRota_144 (by decide) ?_
                                  refine lv_goto (tgt := 149) hx hb dL_isRota_145 (by decide) ?_
                                  refine lv_istore_n (lv' := [(2, .int (1)), (6, .int (45)), (1, .int (y1_47 + 0)), (5, .int ((w_truckAt ((l_renderDay σ6 y3_6).2) y4_47 y3_6))), (0, .ref (a)), (3, .int (y3_6)), (4, .int (y4_47))]) hx hb dL_isRota_149 rfl hl (by decide) rfl (fun ls hl => ?_)
                                  refine lv_iinc (v := y4_47 + 1) (lv' := [(4, .int (y4_47 + 1)), (2, .int (1)), (6, .int (45)), (1, .int (y1_47 + 0)), (5, .int ((w_truckAt ((l_renderDay σ6 y3_6).2) y4_47 y3_6))), (0, .ref (a)), (3, .int (y3_6))]) hx hb dL_isRota_150 hl (k := 6) rfl rfl (by decide) rfl (fun ls hl => ?_)
                                  refine lv_goto (tgt := 47) hx hb dL_isRota_153 (by decide) ?_
                                  refine W.widen (k := 23 + 68 * i_6 + 9 * (i_47 + 1)) (n := 858 + 1128 * i_6 + 54 * (i_47 + 1)) (by omega) (by omega) ?_
                                  exact ih_47 (y1_47 + 0) 1 (y4_47 + 1) (i_47 + 1) (by rw [hi_47, nI_1]) hlt_47 (by omega) (by first | exact fun h => absurd rfl h | exact fun _ => hv_47 (by assumption)) _ _ hP hS ls (lv_sub hl [5, 3, 1, 6, 0] rfl) hsp
              refine W.widen (k := 23 + 68 * i_6 + 9 * 0) (n := 858 + 1128 * i_6 + 54 * 0) (by omega) (by omega) ?_
              refine loop_47 _ (fun y1_47 y2_47 y4_47 i_47 hi_47 hm_47 hv_47 H locs hP hS ls hl hsp => ?_) (tn 5 + 1) y1_6 1 0 0 rfl (Nat.zero_le _) (by omega) (by first | exact fun h => absurd rfl h | exact fun _ => by assumption) _ _ hP hS ls (lv_sub hl [2, 3, 1, 4, 0] rfl) hsp
              refine W.widen (k := 68 + 68 * i_6) (n := 1128 + 1128 * i_6) (by omega) (by omega) ?_
              refine lv_iinc (v := y3_6 + 1) (lv' := [(3, .int (y3_6 + 1)), (0, .ref (a)), (1, .int (y1_47)), (2, .int (y2_47)), (4, .int (y4_47))]) hx hb dL_isRota_156 hl (k := 3) rfl rfl (by decide) rfl (fun ls hl => ?_)
              refine lv_goto (tgt := 6) hx hb dL_isRota_159 (by decide) ?_
              refine W.widen (k := 0 + 68 * (i_6 + 1)) (n := 0 + 1128 * (i_6 + 1)) (by omega) (by omega) ?_
              exact ih_6 y1_47 y2_47 (y3_6 + 1) ((l_renderDay σ6 y3_6).2) (i_6 + 1) (by rw [hi_6, nI_1]) hlt_6 (by omega) hJ_18_0 _ _ hP hS ls (lv_sub hl [1, 2, 3, 0] rfl) hsp
  refine W.widen (k := 0 + 68 * 0) (n := 0 + 1128 * 0) (by omega) (by omega) ?_
  refine loop_6 _ (fun y1_6 y2_6 y3_6 σ6 i_6 hi_6 hm_6 hj_6 H locs hP hS ls hl hsp => ?_) (tn 7 + 1) 0 1 0 σ 0 rfl (Nat.zero_le _) (by omega) h0 _ _ hP hS ls (lv_sub hl [3, 2, 1, 0] rfl) hsp
  refine W.widen (k := 476) (n := 7896) (by omega) (by omega) ?_
  refine lv_iload_n hx hb dL_isRota_162 rfl (lv_at hl 2 rfl) ?_
  refine lv_if_eq (tgt := 193) hx hb dL_isRota_163 (by decide) (fun c_163 => ?_) (fun c_163 => ?_)
  · replace hsp := (if_pos c_163).symm.trans hsp
    refine lv_iconst (v := 0) hx hb dL_isRota_193 (by decide) ?_
    refine W.widen (k := 476) (n := 7896) (by omega) (by omega) ?_
    exact W.zret (v := 0) hx hb hr (rfl) (fun t ht hW => ⟨⟨0, σ6, rfl, ⟨hsp, hj_6⟩, by show ft_LW D k Z sz a _ t.heap; rw [ht]; exact hP⟩, hS.F ht⟩) hS.2.2 dL_isRota_194
  · replace hsp := (if_neg c_163).symm.trans hsp
    refine lv_aload_n hx hb dL_isRota_166 rfl (lv_at hl 0 rfl) ?_
    refine vp_callSi (va_Run.run (va_runV (As := []) (rest := []) ⟨hx, hb, hml, hown, hts⟩ (cl_assignments l D Z k sz a σ6) (cwV 0 hts gL_isRota_X7_assignments rfl rfl rfl (by decide +kernel) ⟨Nat.le_of_ble_eq_true rfl, Nat.le_of_ble_eq_true rfl⟩) (ft_preL hE hz hS hP) rfl rfl hl.1 rfl (lv_room (Nat.le_of_ble_eq_true rfl)) dL_isRota_167 ⟨Nat.le_of_ble_eq_true rfl, Nat.le_of_ble_eq_true rfl⟩)) (fun z hz9 => ?_)
    subst hz9
    refine lv_iload_n hx hb dL_isRota_170 rfl (lv_at hl 1 rfl) ?_
    refine lv_icmp_ne (tgt := 193) hx hb dL_isRota_171 (by decide) (fun c_171 => ?_) (fun c_171 => ?_)
    · replace hsp := (if_neg c_171).symm.trans hsp
      refine lv_iconst (v := 0) hx hb dL_isRota_193 (by decide) ?_
      refine W.widen (k := 476) (n := 7896) (by omega) (by omega) ?_
      exact W.zret (v := 0) hx hb hr (rfl) (fun t ht hW => ⟨⟨0, σ6, rfl, ⟨hsp, hj_6⟩, by show ft_LW D k Z sz a _ t.heap; rw [ht]; exact hP⟩, hS.F ht⟩) hS.2.2 dL_isRota_194
    · replace hsp := (if_pos c_171).symm.trans hsp
      refine lv_aload_n hx hb dL_isRota_174 rfl (lv_at hl 0 rfl) ?_
      refine vp_callSi (va_Run.run (va_runV (As := []) (rest := []) ⟨hx, hb, hml, hown, hts⟩ (cl_assignmentsByTrucks l D Z k sz a σ6) (cwV 0 hts gL_isRota_X7_assignmentsByTrucks rfl rfl rfl (by decide +kernel) ⟨Nat.le_of_ble_eq_true rfl, Nat.le_of_ble_eq_true rfl⟩) (ft_preL hE hz hS hP) rfl rfl hl.1 rfl (lv_room (Nat.le_of_ble_eq_true rfl)) dL_isRota_175 ⟨Nat.le_of_ble_eq_true rfl, Nat.le_of_ble_eq_true rfl⟩)) (fun z hz9 => ?_)
      subst hz9
      refine lv_iload_n hx hb dL_isRota_178 rfl (lv_at hl 1 rfl) ?_
      refine lv_icmp_ne (tgt := 193) hx hb dL_isRota_179 (by decide) (fun c_179 => ?_) (fun c_179 => ?_)
      · replace hsp := (if_neg c_179).symm.trans hsp
        refine lv_iconst (v := 0) hx hb dL_isRota_193 (by decide) ?_
        refine W.widen (k := 476) (n := 7896) (by omega) (by omega) ?_
        exact W.zret (v := 0) hx hb hr (rfl) (fun t ht hW => ⟨⟨0, σ6, rfl, ⟨hsp, hj_6⟩, by show ft_LW D k Z sz a _ t.heap; rw [ht]; exact hP⟩, hS.F ht⟩) hS.2.2 dL_isRota_194
      · replace hsp := (if_pos c_179).symm.trans hsp
        refine lv_aload_n hx hb dL_isRota_182 rfl (lv_at hl 0 rfl) ?_
        refine vp_callSi (va_Run.run (va_runV (As := []) (rest := []) ⟨hx, hb, hml, hown, hts⟩ (cl_isConsistent l D Z k sz a σ6) (cwV 0 hts gL_isRota_X7_isConsistent rfl rfl rfl (by decide +kernel) ⟨Nat.le_of_ble_eq_true rfl, Nat.le_of_ble_eq_true rfl⟩) (ft_preL hE hz hS hP) rfl rfl hl.1 rfl (lv_room (Nat.le_of_ble_eq_true rfl)) dL_isRota_183 ⟨Nat.le_of_ble_eq_true rfl, Nat.le_of_ble_eq_true rfl⟩)) (fun z hz9 => ?_)
        subst hz9
        refine lv_if_eq (tgt := 193) hx hb dL_isRota_186 (by decide) (fun c_186 => ?_) (fun c_186 => ?_)
        · replace hsp := (if_pos c_186).symm.trans hsp
          refine lv_iconst (v := 0) hx hb dL_isRota_193 (by decide) ?_
          refine W.widen (k := 476) (n := 7896) (by omega) (by omega) ?_
          exact W.zret (v := 0) hx hb hr (rfl) (fun t ht hW => ⟨⟨0, σ6, rfl, ⟨hsp, hj_6⟩, by show ft_LW D k Z sz a _ t.heap; rw [ht]; exact hP⟩, hS.F ht⟩) hS.2.2 dL_isRota_194
        · replace hsp := (if_neg c_186).symm.trans hsp
          refine lv_iconst (v := 1) hx hb dL_isRota_189 (by decide) ?_
          refine lv_goto (tgt := 194) hx hb dL_isRota_190 (by decide) ?_
          refine W.widen (k := 476) (n := 7896) (by omega) (by omega) ?_
          exact W.zret (v := 1) hx hb hr (rfl) (fun t ht hW => ⟨⟨1, σ6, rfl, ⟨hsp, hj_6⟩, by show ft_LW D k Z sz a _ t.heap; rw [ht]; exact hP⟩, hS.F ht⟩) hS.2.2 dL_isRota_194

def s_L_areRanked_L4 (σ : ft_Sg)  (K : Int32 → Int32 → (Int32)) : Nat → Int32 → Int32 → (Int32)
  | 0, y1_4, y2_4 => K y1_4 y2_4
  | n + 1, y1_4, y2_4 => if y1_4 = 0 then (K y1_4 y2_4) else (if (l_truckCount σ) ≤ y2_4 then (K y1_4 y2_4) else (if 0 < ((p_coins σ (w_truckByCoins σ (y2_4 - 1))) - (p_coins σ (w_truckByCoins σ y2_4))) then (s_L_areRanked_L4 σ K n 1 (y2_4 + 1)) else (if ((p_coins σ (w_truckByCoins σ (y2_4 - 1))) - (p_coins σ (w_truckByCoins σ y2_4))) = 0 then (if 0 < ((s_L_stocks σ (w_truckByCoins σ (y2_4 - 1))) - (s_L_stocks σ (w_truckByCoins σ y2_4))) then (s_L_areRanked_L4 σ K n 1 (y2_4 + 1)) else (if ((s_L_stocks σ (w_truckByCoins σ (y2_4 - 1))) - (s_L_stocks σ (w_truckByCoins σ y2_4))) = 0 then (if (w_truckByCoins σ y2_4) ≤ (w_truckByCoins σ (y2_4 - 1)) then (s_L_areRanked_L4 σ K n 0 (y2_4 + 1)) else (s_L_areRanked_L4 σ K n 1 (y2_4 + 1))) else (s_L_areRanked_L4 σ K n 0 (y2_4 + 1)))) else (s_L_areRanked_L4 σ K n 0 (y2_4 + 1)))))
def s_L_areRanked (σ : ft_Sg)  : Int32 := s_L_areRanked_L4 σ (fun y1_4 y2_4 => y1_4) (tn 6 + 1) 1 1
set_option maxHeartbeats 4000000 in
set_option maxRecDepth 100000 in
theorem c_L_areRanked (l : Launch) (hl0 : l.stackTraces = false) (D : va_G) (Z : Nat → Nat → Nat) (k : Nat → ClassId) (sz : ft_SZ) (a : Nat) (σ : ft_Sg) (J : ft_Sg → Prop) (hJ : ft_JJ J) (h0 : J σ) : Met l yL_areRanked wsL_areRanked ({ frames := 9, cells := 120, slots := 720, locals := 174 }) (ft_PM D k Z sz a σ [.ref a]) (ft_QWr D k Z sz a σ (s_L_areRanked σ)) 120 720 (ft_AL sz) := by
  refine Met.ofW (cc := cL_areRanked) (maxL := 7) (ret := (some .boolean)) (by decide) rfl ?_
  intro p e s m args below meth c s₁ B hml hv
  obtain ⟨hargs, hP, hEL, hz⟩ := hv
  have hE := hEL.1
  subst hargs
  have hx := B.exec
  have hb := B.bytes
  have hr := B.returns
  have hts := atoms_spec (ws := wsL_areRanked) B.pre
  have hown : s.vm.findClass RL = some m.cls := findClass_of_methodNamed B.named
  have hlocks := B.notSynchronized
  have hS : va_S (ft_AL sz) s.heap s.heap [] := va_S.rf
  have hl := lv_entry ([.ref a]) (n := 7) (Nat.le_of_ble_eq_true rfl)
  rw [lg_entry_eq]
  generalize (lg_sl ([.ref a]) ++ List.replicate (7 - (lg_sl ([.ref a])).length) Slot.unset).toArray = ls at hl ⊢
  have hl : lv_has ls 7 [(0, .ref (a))] := hl
  have hsp := (s_L_areRanked.eq_1 σ ).symm
  refine lv_iconst (v := 1) hx hb dL_areRanked_0 (by decide) ?_
  refine lv_istore_n (lv' := [(1, .int (1)), (0, .ref (a))]) hx hb dL_areRanked_1 rfl hl (by decide) rfl (fun ls hl => ?_)
  refine lv_iconst (v := 1) hx hb dL_areRanked_2 (by decide) ?_
  refine lv_istore_n (lv' := [(2, .int (1)), (1, .int (1)), (0, .ref (a))]) hx hb dL_areRanked_3 rfl hl (by decide) rfl (fun ls hl => ?_)
  have loop_4 : ∀ (K : Int32 → Int32 → (Int32)) (hKx : ∀ (y1_4 : Int32) (y2_4 : Int32) (i_4 : Nat) (hi_4 : y2_4 = nI i_4) (hm_4 : i_4 ≤ tn 6) (hv_4 : (y1_4 = 0 ∨ y1_4 = 1) ∧ 1 ≤ i_4) (H : Heap) (locs : List Loc) (hP : ft_LW D k Z sz a σ H) (hS : va_S (ft_AL sz) s.heap H locs) (ls : Array Slot) (hl : lv_has ls 7 [(0, .ref (a)), (1, .int (y1_4)), (2, .int (y2_4))]) (hsp : K y1_4 y2_4 = s_L_areRanked σ), W p l e (headSpec wsL_areRanked ({ frames := 9, cells := 120, slots := 720, locals := 174 })).room s m ([.ref a] : List Value).toArray below meth c H locs (0 + 120) (0 + 720) (MQ below (ft_QWr D k Z sz a σ (s_L_areRanked σ)) ([.ref a] : List Value).toArray s 120 720 (ft_AL sz)) (F0 m 97 ls [])) (n_4 : Nat), ∀ (y1_4 : Int32) (y2_4 : Int32) (i_4 : Nat) (hi_4 : y2_4 = nI i_4) (hm_4 : i_4 ≤ tn 6) (hn_4 : tn 6 < n_4 + i_4) (hv_4 : (y1_4 = 0 ∨ y1_4 = 1) ∧ 1 ≤ i_4) (H : Heap) (locs : List Loc) (hP : ft_LW D k Z sz a σ H) (hS : va_S (ft_AL sz) s.heap H locs) (ls : Array Slot) (hl : lv_has ls 7 [(0, .ref (a)), (1, .int (y1_4)), (2, .int (y2_4))]) (hsp : s_L_areRanked_L4 σ K n_4 y1_4 y2_4 = s_L_areRanked σ), W p l e (headSpec wsL_areRanked ({ frames := 9, cells := 120, slots := 720, locals := 174 })).room s m ([.ref a] : List Value).toArray below meth c H locs (0 + 20 * i_4) (0 + 120 * i_4) (MQ below (ft_QWr D k Z sz a σ (s_L_areRanked σ)) ([.ref a] : List Value).toArray s 120 720 (ft_AL sz)) (F0 m 4 ls []) := by
    intro K hKx n_4
    induction n_4 with
    | zero => intro y1_4 y2_4 i_4 hi_4 hm_4 hn_4; exact absurd hn_4 (by omega)
    | succ n ih_4 =>
      intro y1_4 y2_4 i_4 hi_4 hm_4 hn_4 hv_4 H locs hP hS ls hl hsp
      rw [s_L_areRanked_L4] at hsp
      have hm5_4 : i_4 ≤ 6 := hm_4
      refine lv_iload_n hx hb dL_areRanked_4 rfl (lv_at hl 1 rfl) ?_
      refine lv_if_eq (tgt := 97) hx hb dL_areRanked_5 (by decide) (fun c_5 => ?_) (fun c_5 => ?_)
      · replace hsp := (if_pos c_5).symm.trans hsp
        refine W.widen (k := 0 + 120) (n := 0 + 720) (by omega) (by omega) ?_
        exact hKx y1_4 y2_4 i_4 hi_4 hm_4 (hv_4) _ _ hP hS ls (lv_sub hl [0, 1, 2] rfl) hsp
      · replace hsp := (if_neg c_5).symm.trans hsp
        refine lv_iload_n hx hb dL_areRanked_8 rfl (lv_at hl 2 rfl) ?_
        refine lv_aload_n hx hb dL_areRanked_9 rfl (lv_at hl 0 rfl) ?_
        refine vp_callSi (va_Run.run (va_runV (As := []) (rest := [.int (y2_4)]) ⟨hx, hb, hml, hown, hts⟩ (cl_truckCount l D Z k sz a σ) (cwV 0 hts gL_areRanked_X7_truckCount rfl rfl rfl (by decide +kernel) ⟨Nat.le_of_ble_eq_true rfl, Nat.le_of_ble_eq_true rfl⟩) (ft_preL hE hz hS hP) rfl rfl hl.1 rfl (lv_room (Nat.le_of_ble_eq_true rfl)) dL_areRanked_10 ⟨(show 0 + 20 * i_4 + 0 ≤ 120 by omega), (show 0 + 120 * i_4 + 0 ≤ 720 by omega)⟩)) (fun z hz9 => ?_)
        subst hz9
        refine lv_icmp_ge (tgt := 97) hx hb dL_areRanked_13 (by decide) (fun c_13 => ?_) (fun c_13 => ?_)
        · replace hsp := (if_pos c_13).symm.trans hsp
          refine W.widen (k := 0 + 120) (n := 0 + 720) (by omega) (by omega) ?_
          exact hKx y1_4 y2_4 i_4 hi_4 hm_4 (hv_4) _ _ hP hS ls (lv_sub hl [0, 1, 2] rfl) hsp
        · replace hsp := (if_neg c_13).symm.trans hsp
          have hs_4 := ft_step6 hi_4 hm_4 c_13 (hJ.dN _ h0)
          have hlt_4 := hs_4.2
          have hl5_4 : i_4 + 1 ≤ 6 := hlt_4
          refine lv_aload_n hx hb dL_areRanked_16 rfl (lv_at hl 0 rfl) ?_
          refine lv_iload_n hx hb dL_areRanked_17 rfl (lv_at hl 2 rfl) ?_
          refine lv_iconst (v := 1) hx hb dL_areRanked_18 (by decide) ?_
          refine lv_isub hx hb dL_areRanked_19 ?_
          refine va_calli (vx_runSW (As := [.ref (a), .int (y2_4 - 1)]) (rest := []) ⟨hx, hb, hml, hown, hts⟩ (d_L_truckByCoins l hl0 D Z k sz a σ (y2_4 - 1)  (ex_truckByCoins)) (vx_cwSW 2 hts gL_areRanked_L_truckByCoins rfl rfl rfl (by decide +kernel) ⟨Nat.le_of_ble_eq_true rfl, Nat.le_of_ble_eq_true rfl⟩) (ft_preM hEL hz hS hP) rfl rfl hl.1 rfl (lv_room (Nat.le_of_ble_eq_true rfl)) dL_areRanked_20 ⟨(show 0 + 20 * i_4 + 1 ≤ 120 by omega), (show 0 + 120 * i_4 + 6 ≤ 720 by omega)⟩) hS (fun _ _ h => h) (fun _ h => h) (fun z u t H1 locs1 ht hvm hw hB hz1 hk1 hS1 => ?_)
          obtain rfl : z = (w_truckByCoins σ (y2_4 - 1)) := hw
          rw [ht] at hB
          have hP := hB
          have hS := hS1
          clear hS1
          generalize H1 = H at hP hS ⊢
          refine W.widen (k := 1 + 20 * i_4) (n := 6 + 120 * i_4) (by omega) (by omega) ?_
          refine lv_istore_n (lv' := [(3, .int ((w_truckByCoins σ (y2_4 - 1)))), (0, .ref (a)), (1, .int (y1_4)), (2, .int (y2_4))]) hx hb dL_areRanked_23 rfl hl (by decide) rfl (fun ls hl => ?_)
          refine lv_aload_n hx hb dL_areRanked_24 rfl (lv_at hl 1 rfl) ?_
          refine lv_iload_n hx hb dL_areRanked_25 rfl (lv_at hl 3 rfl) ?_
          refine va_calli (vx_runSW (As := [.ref (a), .int (y2_4)]) (rest := []) ⟨hx, hb, hml, hown, hts⟩ (d_L_truckByCoins l hl0 D Z k sz a σ y2_4  (ex_truckByCoins)) (vx_cwSW 2 hts gL_areRanked_L_truckByCoins rfl rfl rfl (by decide +kernel) ⟨Nat.le_of_ble_eq_true rfl, Nat.le_of_ble_eq_true rfl⟩) (ft_preM hEL hz hS hP) rfl rfl hl.1 rfl (lv_room (Nat.le_of_ble_eq_true rfl)) dL_areRanked_26 ⟨(show 1 + 20 * i_4 + 1 ≤ 120 by omega), (show 6 + 120 * i_4 + 6 ≤ 720 by omega)⟩) hS (fun _ _ h => h) (fun _ h => h) (fun z u t H1 locs1 ht hvm hw hB hz1 hk1 hS1 => ?_)
          obtain rfl : z = (w_truckByCoins σ y2_4) := hw
          rw [ht] at hB
          have hP := hB
          have hS := hS1
          clear hS1
          generalize H1 = H at hP hS ⊢
          refine W.widen (k := 2 + 20 * i_4) (n := 12 + 120 * i_4) (by omega) (by omega) ?_
          refine lv_istore (lv' := [(4, .int ((w_truckByCoins σ y2_4))), (3, .int ((w_truckByCoins σ (y2_4 - 1)))), (0, .ref (a)), (1, .int (y1_4)), (2, .int (y2_4))]) hx hb dL_areRanked_29 hl (by decide) rfl (fun ls hl => ?_)
          refine lv_aload_n hx hb dL_areRanked_31 rfl (lv_at hl 2 rfl) ?_
          refine lv_iload_n hx hb dL_areRanked_32 rfl (lv_at hl 1 rfl) ?_
          refine va_calli (va_runV (As := [.int ((w_truckByCoins σ (y2_4 - 1)))]) (rest := []) ⟨hx, hb, hml, hown, hts⟩ (ft_noX (cl_coins l hl0 D Z k sz a σ (w_truckByCoins σ (y2_4 - 1)) ) (ok_coins (hJ.o_tB _ _ (i_4 - 1) h0 (ft_pr hi_4 hv_4.2) (by have := hs_4.1; omega)))) (cwV 1 hts gL_areRanked_X7_coins rfl rfl rfl (by decide +kernel) ⟨Nat.le_of_ble_eq_true rfl, Nat.le_of_ble_eq_true rfl⟩) (ft_preL hE hz hS hP) rfl rfl hl.1 rfl (lv_room (Nat.le_of_ble_eq_true rfl)) dL_areRanked_33 ⟨(show 2 + 20 * i_4 + 1 ≤ 120 by omega), (show 12 + 120 * i_4 + 6 ≤ 720 by omega)⟩) hS (fun _ _ h => h) (fun _ h => h) (fun z u t H1 locs1 ht hvm hw hB hz1 hk1 hS1 => ?_)
          obtain rfl : z = (p_coins σ (w_truckByCoins σ (y2_4 - 1))) := hw
          rw [ht] at hB
          have hP := hB
          have hS := hS1
          clear hS1
          generalize H1 = H at hP hS ⊢
          refine W.widen (k := 3 + 20 * i_4) (n := 18 + 120 * i_4) (by omega) (by omega) ?_
          refine lv_aload_n hx hb dL_areRanked_36 rfl (lv_at hl 2 rfl) ?_
          refine lv_iload hx hb dL_areRanked_37 (lv_at hl 0 rfl) ?_
          refine va_calli (va_runV (As := [.int ((w_truckByCoins σ y2_4))]) (rest := [.int ((p_coins σ (w_truckByCoins σ (y2_4 - 1))))]) ⟨hx, hb, hml, hown, hts⟩ (ft_noX (cl_coins l hl0 D Z k sz a σ (w_truckByCoins σ y2_4) ) (ok_coins (hJ.o_tB _ _ i_4 h0 hi_4 hs_4.1))) (cwV 1 hts gL_areRanked_X7_coins rfl rfl rfl (by decide +kernel) ⟨Nat.le_of_ble_eq_true rfl, Nat.le_of_ble_eq_true rfl⟩) (ft_preL hE hz hS hP) rfl rfl hl.1 rfl (lv_room (Nat.le_of_ble_eq_true rfl)) dL_areRanked_39 ⟨(show 3 + 20 * i_4 + 1 ≤ 120 by omega), (show 18 + 120 * i_4 + 6 ≤ 720 by omega)⟩) hS (fun _ _ h => h) (fun _ h => h) (fun z u t H1 locs1 ht hvm hw hB hz1 hk1 hS1 => ?_)
          obtain rfl : z = (p_coins σ (w_truckByCoins σ y2_4)) := hw
          rw [ht] at hB
          have hP := hB
          have hS := hS1
          clear hS1
          generalize H1 = H at hP hS ⊢
          refine W.widen (k := 4 + 20 * i_4) (n := 24 + 120 * i_4) (by omega) (by omega) ?_
          refine lv_isub hx hb dL_areRanked_42 ?_
          refine lv_istore (lv' := [(5, .int ((p_coins σ (w_truckByCoins σ (y2_4 - 1))) - (p_coins σ (w_truckByCoins σ y2_4)))), (4, .int ((w_truckByCoins σ y2_4))), (3, .int ((w_truckByCoins σ (y2_4 - 1)))), (0, .ref (a)), (1, .int (y1_4)), (2, .int (y2_4))]) hx hb dL_areRanked_43 hl (by decide) rfl (fun ls hl => ?_)
          refine lv_aload_n hx hb dL_areRanked_45 rfl (lv_at hl 3 rfl) ?_
          refine lv_iload_n hx hb dL_areRanked_46 rfl (lv_at hl 2 rfl) ?_
          refine va_calli (va_runS (As := [.ref (a), .int ((w_truckByCoins σ (y2_4 - 1)))]) (rest := []) ⟨hx, hb, hml, hown, hts⟩ (c_L_stocks l hl0 D Z k sz a σ (w_truckByCoins σ (y2_4 - 1)) (hJ.o_tB _ _ (i_4 - 1) h0 (ft_pr hi_4 hv_4.2) (by have := hs_4.1; omega))) (va_cwS 2 hts gL_areRanked_L_stocks rfl rfl rfl (by decide +kernel) ⟨Nat.le_of_ble_eq_true rfl, Nat.le_of_ble_eq_true rfl⟩) (ft_preM hEL hz hS hP) rfl rfl hl.1 rfl (lv_room (Nat.le_of_ble_eq_true rfl)) dL_areRanked_47 ⟨(show 4 + 20 * i_4 + 8 ≤ 120 by omega), (show 24 + 120 * i_4 + 48 ≤ 720 by omega)⟩) hS (fun _ _ h => h) (fun _ h => h) (fun z u t H1 locs1 ht hvm hw hB hz1 hk1 hS1 => ?_)
          obtain rfl : z = (s_L_stocks σ (w_truckByCoins σ (y2_4 - 1))) := hw
          rw [ht] at hB
          have hP := hB
          have hS := hS1
          clear hS1
          generalize H1 = H at hP hS ⊢
          refine W.widen (k := 12 + 20 * i_4) (n := 72 + 120 * i_4) (by omega) (by omega) ?_
          refine lv_aload_n hx hb dL_areRanked_50 rfl (lv_at hl 3 rfl) ?_
          refine lv_iload hx hb dL_areRanked_51 (lv_at hl 1 rfl) ?_
          refine va_calli (va_runS (As := [.ref (a), .int ((w_truckByCoins σ y2_4))]) (rest := [.int ((s_L_stocks σ (w_truckByCoins σ (y2_4 - 1))))]) ⟨hx, hb, hml, hown, hts⟩ (c_L_stocks l hl0 D Z k sz a σ (w_truckByCoins σ y2_4) (hJ.o_tB _ _ i_4 h0 hi_4 hs_4.1)) (va_cwS 2 hts gL_areRanked_L_stocks rfl rfl rfl (by decide +kernel) ⟨Nat.le_of_ble_eq_true rfl, Nat.le_of_ble_eq_true rfl⟩) (ft_preM hEL hz hS hP) rfl rfl hl.1 rfl (lv_room (Nat.le_of_ble_eq_true rfl)) dL_areRanked_53 ⟨(show 12 + 20 * i_4 + 8 ≤ 120 by omega), (show 72 + 120 * i_4 + 48 ≤ 720 by omega)⟩) hS (fun _ _ h => h) (fun _ h => h) (fun z u t H1 locs1 ht hvm hw hB hz1 hk1 hS1 => ?_)
          obtain rfl : z = (s_L_stocks σ (w_truckByCoins σ y2_4)) := hw
          rw [ht] at hB
          have hP := hB
          have hS := hS1
          clear hS1
          generalize H1 = H at hP hS ⊢
          refine W.widen (k := 20 + 20 * i_4) (n := 120 + 120 * i_4) (by omega) (by omega) ?_
          refine lv_isub hx hb dL_areRanked_56 ?_
          refine lv_istore (lv' := [(6, .int ((s_L_stocks σ (w_truckByCoins σ (y2_4 - 1))) - (s_L_stocks σ (w_truckByCoins σ y2_4)))), (5, .int ((p_coins σ (w_truckByCoins σ (y2_4 - 1))) - (p_coins σ (w_truckByCoins σ y2_4)))), (4, .int ((w_truckByCoins σ y2_4))), (3, .int ((w_truckByCoins σ (y2_4 - 1)))), (0, .ref (a)), (1, .int (y1_4)), (2, .int (y2_4))]) hx hb dL_areRanked_57 hl (by decide) rfl (fun ls hl => ?_)
          refine lv_iload hx hb dL_areRanked_59 (lv_at hl 1 rfl) ?_
          refine lv_if_gt (tgt := 85) hx hb dL_areRanked_61 (by decide) (fun c_61 => ?_) (fun c_61 => ?_)
          · replace hsp := (if_pos c_61).symm.trans hsp
            refine lv_iconst (v := 1) hx hb dL_areRanked_85 (by decide) ?_
            refine lv_goto (tgt := 90) hx hb dL_areRanked_86 (by decide) ?_
            refine lv_istore_n (lv' := [(1, .int (1)), (6, .int ((s_L_stocks σ (w_truckByCoins σ (y2_4 - 1))) - (s_L_stocks σ (w_truckByCoins σ y2_4)))), (5, .int ((p_coins σ (w_truckByCoins σ (y2_4 - 1))) - (p_coins σ (w_truckByCoins σ y2_4)))), (4, .int ((w_truckByCoins σ y2_4))), (3, .int ((w_truckByCoins σ (y2_4 - 1)))), (0, .ref (a)), (2, .int (y2_4))]) hx hb dL_areRanked_90 rfl hl (by decide) rfl (fun ls hl => ?_)
            refine lv_iinc (v := y2_4 + 1) (lv' := [(2, .int (y2_4 + 1)), (1, .int (1)), (6, .int ((s_L_stocks σ (w_truckByCoins σ (y2_4 - 1))) - (s_L_stocks σ (w_truckByCoins σ y2_4)))), (5, .int ((p_coins σ (w_truckByCoins σ (y2_4 - 1))) - (p_coins σ (w_truckByCoins σ y2_4)))), (4, .int ((w_truckByCoins σ y2_4))), (3, .int ((w_truckByCoins σ (y2_4 - 1)))), (0, .ref (a))]) hx hb dL_areRanked_91 hl (k := 6) rfl rfl (by decide) rfl (fun ls hl => ?_)
            refine lv_goto (tgt := 4) hx hb dL_areRanked_94 (by decide) ?_
            refine W.widen (k := 0 + 20 * (i_4 + 1)) (n := 0 + 120 * (i_4 + 1)) (by omega) (by omega) ?_
            exact ih_4 1 (y2_4 + 1) (i_4 + 1) (by rw [hi_4, nI_1]) hlt_4 (by omega) (⟨by first | exact Or.inl rfl | exact Or.inr rfl, by omega⟩) _ _ hP hS ls (lv_sub hl [6, 1, 0] rfl) hsp
          · replace hsp := (if_neg c_61).symm.trans hsp
            refine lv_iload hx hb dL_areRanked_64 (lv_at hl 1 rfl) ?_
            refine lv_if_ne (tgt := 89) hx hb dL_areRanked_66 (by decide) (fun c_66 => ?_) (fun c_66 => ?_)
            · replace hsp := (if_neg c_66).symm.trans hsp
              refine lv_iconst (v := 0) hx hb dL_areRanked_89 (by decide) ?_
              refine lv_istore_n (lv' := [(1, .int (0)), (6, .int ((s_L_stocks σ (w_truckByCoins σ (y2_4 - 1))) - (s_L_stocks σ (w_truckByCoins σ y2_4)))), (5, .int ((p_coins σ (w_truckByCoins σ (y2_4 - 1))) - (p_coins σ (w_truckByCoins σ y2_4)))), (4, .int ((w_truckByCoins σ y2_4))), (3, .int ((w_truckByCoins σ (y2_4 - 1)))), (0, .ref (a)), (2, .int (y2_4))]) hx hb dL_areRanked_90 rfl hl (by decide) rfl (fun ls hl => ?_)
              refine lv_iinc (v := y2_4 + 1) (lv' := [(2, .int (y2_4 + 1)), (1, .int (0)), (6, .int ((s_L_stocks σ (w_truckByCoins σ (y2_4 - 1))) - (s_L_stocks σ (w_truckByCoins σ y2_4)))), (5, .int ((p_coins σ (w_truckByCoins σ (y2_4 - 1))) - (p_coins σ (w_truckByCoins σ y2_4)))), (4, .int ((w_truckByCoins σ y2_4))), (3, .int ((w_truckByCoins σ (y2_4 - 1)))), (0, .ref (a))]) hx hb dL_areRanked_91 hl (k := 6) rfl rfl (by decide) rfl (fun ls hl => ?_)
              refine lv_goto (tgt := 4) hx hb dL_areRanked_94 (by decide) ?_
              refine W.widen (k := 0 + 20 * (i_4 + 1)) (n := 0 + 120 * (i_4 + 1)) (by omega) (by omega) ?_
              exact ih_4 0 (y2_4 + 1) (i_4 + 1) (by rw [hi_4, nI_1]) hlt_4 (by omega) (⟨by first | exact Or.inl rfl | exact Or.inr rfl, by omega⟩) _ _ hP hS ls (lv_sub hl [6, 1, 0] rfl) hsp
            · replace hsp := (if_pos c_66).symm.trans hsp
              refine lv_iload hx hb dL_areRanked_69 (lv_at hl 0 rfl) ?_
              refine lv_if_gt (tgt := 85) hx hb dL_areRanked_71 (by decide) (fun c_71 => ?_) (fun c_71 => ?_)
              · replace hsp := (if_pos c_71).symm.trans hsp
                refine lv_iconst (v := 1) hx hb dL_areRanked_85 (by decide) ?_
                refine lv_goto (tgt := 90) hx hb dL_areRanked_86 (by decide) ?_
                refine lv_istore_n (lv' := [(1, .int (1)), (6, .int ((s_L_stocks σ (w_truckByCoins σ (y2_4 - 1))) - (s_L_stocks σ (w_truckByCoins σ y2_4)))), (5, .int ((p_coins σ (w_truckByCoins σ (y2_4 - 1))) - (p_coins σ (w_truckByCoins σ y2_4)))), (4, .int ((w_truckByCoins σ y2_4))), (3, .int ((w_truckByCoins σ (y2_4 - 1)))), (0, .ref (a)), (2, .int (y2_4))]) hx hb dL_areRanked_90 rfl hl (by decide) rfl (fun ls hl => ?_)
                refine lv_iinc (v := y2_4 + 1) (lv' := [(2, .int (y2_4 + 1)), (1, .int (1)), (6, .int ((s_L_stocks σ (w_truckByCoins σ (y2_4 - 1))) - (s_L_stocks σ (w_truckByCoins σ y2_4)))), (5, .int ((p_coins σ (w_truckByCoins σ (y2_4 - 1))) - (p_coins σ (w_truckByCoins σ y2_4)))), (4, .int ((w_truckByCoins σ y2_4))), (3, .int ((w_truckByCoins σ (y2_4 - 1)))), (0, .ref (a))]) hx hb dL_areRanked_91 hl (k := 6) rfl rfl (by decide) rfl (fun ls hl => ?_)
                refine lv_goto (tgt := 4) hx hb dL_areRanked_94 (by decide) ?_
                refine W.widen (k := 0 + 20 * (i_4 + 1)) (n := 0 + 120 * (i_4 + 1)) (by omega) (by omega) ?_
                exact ih_4 1 (y2_4 + 1) (i_4 + 1) (by rw [hi_4, nI_1]) hlt_4 (by omega) (⟨by first | exact Or.inl rfl | exact Or.inr rfl, by omega⟩) _ _ hP hS ls (lv_sub hl [6, 1, 0] rfl) hsp
              · replace hsp := (if_neg c_71).symm.trans hsp
                refine lv_iload hx hb dL_areRanked_74 (lv_at hl 0 rfl) ?_
                refine lv_if_ne (tgt := 89) hx hb dL_areRanked_76 (by decide) (fun c_76 => ?_) (fun c_76 => ?_)
                · replace hsp := (if_neg c_76).symm.trans hsp
                  refine lv_iconst (v := 0) hx hb dL_areRanked_89 (by decide) ?_
                  refine lv_istore_n (lv' := [(1, .int (0)), (6, .int ((s_L_stocks σ (w_truckByCoins σ (y2_4 - 1))) - (s_L_stocks σ (w_truckByCoins σ y2_4)))), (5, .int ((p_coins σ (w_truckByCoins σ (y2_4 - 1))) - (p_coins σ (w_truckByCoins σ y2_4)))), (4, .int ((w_truckByCoins σ y2_4))), (3, .int ((w_truckByCoins σ (y2_4 - 1)))), (0, .ref (a)), (2, .int (y2_4))]) hx hb dL_areRanked_90 rfl hl (by decide) rfl (fun ls hl => ?_)
                  refine lv_iinc (v := y2_4 + 1) (lv' := [(2, .int (y2_4 + 1)), (1, .int (0)), (6, .int ((s_L_stocks σ (w_truckByCoins σ (y2_4 - 1))) - (s_L_stocks σ (w_truckByCoins σ y2_4)))), (5, .int ((p_coins σ (w_truckByCoins σ (y2_4 - 1))) - (p_coins σ (w_truckByCoins σ y2_4)))), (4, .int ((w_truckByCoins σ y2_4))), (3, .int ((w_truckByCoins σ (y2_4 - 1)))), (0, .ref (a))]) hx hb dL_areRanked_91 hl (k := 6) rfl rfl (by decide) rfl (fun ls hl => ?_)
                  refine lv_goto (tgt := 4) hx hb dL_areRanked_94 (by decide) ?_
                  refine W.widen (k := 0 + 20 * (i_4 + 1)) (n := 0 + 120 * (i_4 + 1)) (by omega) (by omega) ?_
                  exact ih_4 0 (y2_4 + 1) (i_4 + 1) (by rw [hi_4, nI_1]) hlt_4 (by omega) (⟨by first | exact Or.inl rfl | exact Or.inr rfl, by omega⟩) _ _ hP hS ls (lv_sub hl [6, 1, 0] rfl) hsp
                · replace hsp := (if_pos c_76).symm.trans hsp
                  refine lv_iload_n hx hb dL_areRanked_79 rfl (lv_at hl 3 rfl) ?_
                  refine lv_iload hx hb dL_areRanked_80 (lv_at hl 2 rfl) ?_
                  refine lv_icmp_ge (tgt := 89) hx hb dL_areRanked_82 (by decide) (fun c_82 => ?_) (fun c_82 => ?_)
                  · replace hsp := (if_pos c_82).symm.trans hsp
                    refine lv_iconst (v := 0) hx hb dL_areRanked_89 (by decide) ?_
                    refine lv_istore_n (lv' := [(1, .int (0)), (6, .int ((s_L_stocks σ (w_truckByCoins σ (y2_4 - 1))) - (s_L_stocks σ (w_truckByCoins σ y2_4)))), (5, .int ((p_coins σ (w_truckByCoins σ (y2_4 - 1))) - (p_coins σ (w_truckByCoins σ y2_4)))), (4, .int ((w_truckByCoins σ y2_4))), (3, .int ((w_truckByCoins σ (y2_4 - 1)))), (0, .ref (a)), (2, .int (y2_4))]) hx hb dL_areRanked_90 rfl hl (by decide) rfl (fun ls hl => ?_)
                    refine lv_iinc (v := y2_4 + 1) (lv' := [(2, .int (y2_4 + 1)), (1, .int (0)), (6, .int ((s_L_stocks σ (w_truckByCoins σ (y2_4 - 1))) - (s_L_stocks σ (w_truckByCoins σ y2_4)))), (5, .int ((p_coins σ (w_truckByCoins σ (y2_4 - 1))) - (p_coins σ (w_truckByCoins σ y2_4)))), (4, .int ((w_truckByCoins σ y2_4))), (3, .int ((w_truckByCoins σ (y2_4 - 1)))), (0, .ref (a))]) hx hb dL_areRanked_91 hl (k := 6) rfl rfl (by decide) rfl (fun ls hl => ?_)
                    refine lv_goto (tgt := 4) hx hb dL_areRanked_94 (by decide) ?_
                    refine W.widen (k := 0 + 20 * (i_4 + 1)) (n := 0 + 120 * (i_4 + 1)) (by omega) (by omega) ?_
                    exact ih_4 0 (y2_4 + 1) (i_4 + 1) (by rw [hi_4, nI_1]) hlt_4 (by omega) (⟨by first | exact Or.inl rfl | exact Or.inr rfl, by omega⟩) _ _ hP hS ls (lv_sub hl [6, 1, 0] rfl) hsp
                  · replace hsp := (if_neg c_82).symm.trans hsp
                    refine lv_iconst (v := 1) hx hb dL_areRanked_85 (by decide) ?_
                    refine lv_goto (tgt := 90) hx hb dL_areRanked_86 (by decide) ?_
                    refine lv_istore_n (lv' := [(1, .int (1)), (6, .int ((s_L_stocks σ (w_truckByCoins σ (y2_4 - 1))) - (s_L_stocks σ (w_truckByCoins σ y2_4)))), (5, .int ((p_coins σ (w_truckByCoins σ (y2_4 - 1))) - (p_coins σ (w_truckByCoins σ y2_4)))), (4, .int ((w_truckByCoins σ y2_4))), (3, .int ((w_truckByCoins σ (y2_4 - 1)))), (0, .ref (a)), (2, .int (y2_4))]) hx hb dL_areRanked_90 rfl hl (by decide) rfl (fun ls hl => ?_)
                    refine lv_iinc (v := y2_4 + 1) (lv' := [(2, .int (y2_4 + 1)), (1, .int (1)), (6, .int ((s_L_stocks σ (w_truckByCoins σ (y2_4 - 1))) - (s_L_stocks σ (w_truckByCoins σ y2_4)))), (5, .int ((p_coins σ (w_truckByCoins σ (y2_4 - 1))) - (p_coins σ (w_truckByCoins σ y2_4)))), (4, .int ((w_truckByCoins σ y2_4))), (3, .int ((w_truckByCoins σ (y2_4 - 1)))), (0, .ref (a))]) hx hb dL_areRanked_91 hl (k := 6) rfl rfl (by decide) rfl (fun ls hl => ?_)
                    refine lv_goto (tgt := 4) hx hb dL_areRanked_94 (by decide) ?_
                    refine W.widen (k := 0 + 20 * (i_4 + 1)) (n := 0 + 120 * (i_4 + 1)) (by omega) (by omega) ?_
                    exact ih_4 1 (y2_4 + 1) (i_4 + 1) (by rw [hi_4, nI_1]) hlt_4 (by omega) (⟨by first | exact Or.inl rfl | exact Or.inr rfl, by omega⟩) _ _ hP hS ls (lv_sub hl [6, 1, 0] rfl) hsp
  refine W.widen (k := 0 + 20 * 1) (n := 0 + 120 * 1) (by omega) (by omega) ?_
  refine loop_4 _ (fun y1_4 y2_4 i_4 hi_4 hm_4 hv_4 H locs hP hS ls hl hsp => ?_) (tn 6 + 1) 1 1 1 rfl (by decide) (by omega) (⟨Or.inr rfl, Nat.le_refl _⟩) _ _ hP hS ls (lv_sub hl [2, 1, 0] rfl) hsp
  refine W.widen (k := 120) (n := 720) (by omega) (by omega) ?_
  refine lv_iload_n hx hb dL_areRanked_97 rfl (lv_at hl 1 rfl) ?_
  refine W.widen (k := 120) (n := 720) (by omega) (by omega) ?_
  exact W.zret (v := y1_4) hx hb hr (nar_b hv_4.1) (fun t ht hW => ⟨⟨y1_4, (), rfl, hsp, by show ft_LW D k Z sz a _ t.heap; rw [ht]; exact hP⟩, hS.F ht⟩) hS.2.2 dL_areRanked_98
