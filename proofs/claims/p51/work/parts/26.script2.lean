def s_X3_readStep_L55 (o : Nat → Int32) (g : ft_G) (n1 : Nat) (j_1 : Nat) (K : Int32 → (Nat → Int32) → (ft_G) → (Int32 × ((Nat → Int32) × ft_G))) : Nat → Int32 → (Nat → Int32) → (ft_G) → (Int32 × ((Nat → Int32) × ft_G))
  | 0, y4_55, o_55, g_55 => K y4_55 o_55 g_55
  | n + 1, y4_55, o_55, g_55 => if ((ft_ena.getD j_1 0) - 1) < y4_55 then (K y4_55 o_55 g_55) else (if 3 ≤ y4_55 then (K y4_55 o_55 g_55) else (if y4_55 = ((ft_ena.getD j_1 0) - 1) then (if (ft_enb.getD j_1 0) = 0 then (if ((s_X3_readArgument o_55 g_55 0).1) = (-1) then ((0, ((s_X3_readArgument o_55 g_55 0).2, g_55))) else (s_X3_readStep_L55 o g n1 j_1 K n (y4_55 + 1) ((s_X3_readArgument o_55 g_55 0).2) (ft_ga g_55 n1 (tn y4_55) ((s_X3_readArgument o_55 g_55 0).1)))) else (if ((s_X3_readArgument o_55 g_55 1).1) = (-1) then ((0, ((s_X3_readArgument o_55 g_55 1).2, g_55))) else (s_X3_readStep_L55 o g n1 j_1 K n (y4_55 + 1) ((s_X3_readArgument o_55 g_55 1).2) (ft_ga g_55 n1 (tn y4_55) ((s_X3_readArgument o_55 g_55 1).1))))) else (if ((s_X3_readArgument o_55 g_55 0).1) = (-1) then ((0, ((s_X3_readArgument o_55 g_55 0).2, g_55))) else (s_X3_readStep_L55 o g n1 j_1 K n (y4_55 + 1) ((s_X3_readArgument o_55 g_55 0).2) (ft_ga g_55 n1 (tn y4_55) ((s_X3_readArgument o_55 g_55 0).1))))))
def s_X3_readStep (o : Nat → Int32) (g : ft_G) (n1 : Nat) : Int32 × ((Nat → Int32) × ft_G) := ft_op (s_X3_readWord o g).1 ((0, ((s_X3_readWord o g).2, g))) (fun j_1 => if j_1 = 8 then (if (s_X3_hasAt ((s_X3_readWord o g).2) (ft_gc g n1 j_1) (((s_X3_readWord o g).2) 5) 32) = 0 then ((1, ((s_X3_readWord o g).2, ft_ga (ft_gc g n1 j_1) n1 (tn 0) 1))) else (s_X3_readStep_L55 o g n1 j_1 (fun y4_55 o_55 g_55 => (1, (o_55, g_55))) (tn 3 + 1) 0 ((s_X3_readWord o g).2) (ft_gc g n1 j_1))) else (s_X3_readStep_L55 o g n1 j_1 (fun y4_55 o_55 g_55 => (1, (o_55, g_55))) (tn 3 + 1) 0 ((s_X3_readWord o g).2) (ft_gc g n1 j_1)))
set_option maxHeartbeats 4000000 in
set_option maxRecDepth 100000 in
theorem c_X3_readStep (l : Launch) (dC : va_G) (Z : Nat → Nat → Nat) (ad : Nat → Nat) (k : Nat → ClassId) (q : Nat → Nat → Int32) (pm : Nat → Nat) (o : Nat → Int32) (g : ft_G) (n1 : Nat) (hn1 : n1 < 15) (hc1 : o 6 ≤ nI g.1.1) (hc2 : g.1.1 < 2 ^ 31) : Met l yX3_readStep wsX3_readStep ({ frames := 7, cells := 0, slots := 0, locals := 157 }) (ft_Pf dC k Z (ft_A 292 ad) [.ref (ad 256), .ref (ad (262 + 2 * n1))] (ft_WR ad k Z q pm o g)) (va_Qi (fun (z : Int32) (u : ((Nat → Int32) × ft_G)) => (z, u) = s_X3_readStep o g n1) (fun (u : ((Nat → Int32) × ft_G)) (t : State) => va_P dC vwCl (ft_WR ad k Z q pm u.1 u.2) t.heap) (ft_A 292 ad)) 0 0 (ft_A 292 ad) := by
  refine Met.ofW (cc := cX3_readStep) (maxL := 6) (ret := (some .boolean)) (by decide) rfl ?_
  intro p e s m args below meth c s₁ B hml hv
  obtain ⟨hargs, hP, hE, hD0⟩ := hv
  have hK := hE.1
  subst hargs
  have hx := B.exec
  have hb := B.bytes
  have hr := B.returns
  have hts := atoms_spec (ws := wsX3_readStep) B.pre
  have hown : s.vm.findClass RX3 = some m.cls := findClass_of_methodNamed B.named
  have hlocks := B.notSynchronized
  have hD := ft_D_self hD0
  have hS : va_S (ft_A 292 ad) s.heap s.heap [] := va_S.rf
  have hl := lv_entry ([.ref (ad 256), .ref (ad (262 + 2 * n1))]) (n := 6) (Nat.le_of_ble_eq_true rfl)
  rw [lg_entry_eq]
  generalize (lg_sl ([.ref (ad 256), .ref (ad (262 + 2 * n1))]) ++ List.replicate (6 - (lg_sl ([.ref (ad 256), .ref (ad (262 + 2 * n1))])).length) Slot.unset).toArray = ls at hl ⊢
  have hl : lv_has ls 6 [(0, .ref (ad 256)), (1, .ref (ad (262 + 2 * n1)))] := hl
  have hsp := (s_X3_readStep.eq_1 o g n1).symm
  refine lv_aload_n hx hb dX3_readStep_0 rfl (lv_at hl 0 rfl) ?_
  refine va_calle (va_runV (As := []) (rest := []) ⟨hx, hb, hml, hown, hts⟩ (c_X3_readWord l dC Z ad k q pm o g hc1 hc2) (cwV 0 hts gX3_readStep_X3_readWord rfl rfl rfl (by decide +kernel) ⟨Nat.le_of_ble_eq_true rfl, Nat.le_of_ble_eq_true rfl⟩) (ft_preVh hE hS (fun _ h => h) hP hD (ci := 5) (q0 := (253 + 3)) rfl (ft_get' (by decide) rfl)) rfl rfl hl.1 rfl (lv_room (Nat.le_of_ble_eq_true rfl)) dX3_readStep_1 ⟨Nat.le_of_ble_eq_true rfl, Nat.le_of_ble_eq_true rfl⟩) hS (fun q _ h => h) (fun q h => h) (fun ro u t H1 locs ht hvm hw hB hz1 hk1 hS => ?_)
  obtain ⟨hw1, hw2⟩ := hw
  obtain ⟨rfl, rfl⟩ : ro = (s_X3_readWord o g).1 ∧ u = (s_X3_readWord o g).2 := ⟨congrArg Prod.fst hw1, congrArg Prod.snd hw1⟩
  rw [ht] at hB
  have hP : va_P dC vwCl (ft_WR ad k Z q pm ((s_X3_readWord o g).2) g) H1 := hB
  have hD : va_D (ft_A 292 ad) (ft_WR ad k Z q pm ((s_X3_readWord o g).2) g) := ft_D_va hD _
  generalize H1 = H at hP hS ⊢
  cases ho_1 : (s_X3_readWord o g).1 with
  | none =>
    rw [ho_1] at hsp
    replace hsp := (ft_op_n _ _).symm.trans hsp
    try rw [ho_1]
    refine W.eq (g2 := F0 m 4 ls [.null]) rfl ?_
    refine lv_astore_nN (lv' := [(2, .null), (0, .ref (ad 256)), (1, .ref (ad (262 + 2 * n1)))]) hx hb dX3_readStep_4 rfl hl (by decide) rfl (fun ls hl => ?_)
    refine lv_aload_nN hx hb dX3_readStep_5 rfl (lv_at hl 0 rfl) ?_
    refine lv_ifnonnullN hx hb dX3_readStep_6 ?_
    refine lv_iconst (v := 0) hx hb dX3_readStep_9 (by decide) ?_
    exact W.zret (v := 0) hx hb hr (rfl) (fun t ht hW => ⟨⟨0, ((s_X3_readWord o g).2, g), rfl, hsp, ft_heap ht hP⟩, hS.F ht⟩) hS.2.2 dX3_readStep_10
  | some j_1 =>
    rw [ho_1] at hsp
    replace hsp := (ft_op_s _ _ _).symm.trans hsp
    try rw [ho_1]
    refine W.eq (g2 := F0 m 4 ls [.ref (Z 0 j_1)]) rfl ?_
    refine lv_astore_n (lv' := [(2, .ref (Z 0 j_1)), (0, .ref (ad 256)), (1, .ref (ad (262 + 2 * n1)))]) hx hb dX3_readStep_4 rfl hl (by decide) rfl (fun ls hl => ?_)
    refine lv_aload_n hx hb dX3_readStep_5 rfl (lv_at hl 0 rfl) ?_
    refine lv_ifnonnull (tgt := 11) hx hb dX3_readStep_6 (by decide) ?_
    refine lv_aload_n hx hb dX3_readStep_11 rfl (lv_at hl 2 rfl) ?_
    refine lv_aload_n hx hb dX3_readStep_12 rfl (lv_at hl 0 rfl) ?_
    refine va_putN (D := dC) (ci := 7) (v := .ref (Z 0 j_1)) (ty := .object RX1) (C := RX5) (T := TX5) (N := 2) hx hb hts (by decide +kernel) tyX5 tyX5_ok nmX5 hown hK.1 hP hD hS (262 + 2 * n1) (ft_R_st hn1) rfl 0 (by decide) (ft_nl hK.2 20 rfl) (fun _ h9 => h9) rfl (by decide +kernel) rfl rfl (Nat.le_of_ble_eq_true rfl) dX3_readStep_13 (fun H locs hP hD hS => ?_)
    have hP := ft_cast hP (ft_R_c hn1)
    have hD := ft_castD hD (ft_R_c hn1)
    have hP : va_P dC vwCl (ft_WR ad k Z q pm ((s_X3_readWord o g).2) (ft_gc g n1 j_1)) H := hP
    have hD : va_D (ft_A 292 ad) (ft_WR ad k Z q pm ((s_X3_readWord o g).2) (ft_gc g n1 j_1)) := hD
    refine lv_aload_n hx hb dX3_readStep_16 rfl (lv_at hl 0 rfl) ?_
    refine va_gets (C := RX1) (n := "WAIT") hx hb (hE.2.2.en.1 8 (by decide)).1 hS hown (hts (.fieldLink RX3 52 "FoodTruckRota$Command" "WAIT" "LFoodTruckRota$Command;") (by decide +kernel)) (fun _ h9 => h9) dX3_readStep_17 ?_
    refine lv_acmp_ne (tgt := 45) (rx := some (Z 0 j_1)) (ry := some (Z 0 8)) hx hb dX3_readStep_20 (by decide) (fun c_20 => ?_) (fun c_20 => ?_)
    · have c_20 : ¬ j_1 = 8 := fun h9 => c_20 (by rw [h9])
      replace hsp := (if_neg c_20).symm.trans hsp
      refine lv_aload_n hx hb dX3_readStep_45 rfl (lv_at hl 0 rfl) ?_
      refine ft_getfN (o := "FoodTruckRota$Command") (n := "argumentTotal") (d := "I") (v := .int (ft_ena.getD j_1 0)) hx hb ((hE.2.2.en.1 j_1 (hw2 j_1 ho_1)).2.2 (ft_enF.get ⟨1, by decide⟩) (List.get_mem _ _)) hS hown (ft_nl hK.2 30 rfl) (fun _ h9 => h9) dX3_readStep_46 ?_
      refine lv_iconst (v := 1) hx hb dX3_readStep_49 (by decide) ?_
      refine lv_isub hx hb dX3_readStep_50 ?_
      refine lv_istore_n (lv' := [(3, .int ((ft_ena.getD j_1 0) - 1)), (2, .ref (Z 0 j_1)), (0, .ref (ad 256)), (1, .ref (ad (262 + 2 * n1)))]) hx hb dX3_readStep_51 rfl hl (by decide) rfl (fun ls hl => ?_)
      refine lv_iconst (v := 0) hx hb dX3_readStep_52 (by decide) ?_
      refine lv_istore (lv' := [(4, .int (0)), (3, .int ((ft_ena.getD j_1 0) - 1)), (2, .ref (Z 0 j_1)), (0, .ref (ad 256)), (1, .ref (ad (262 + 2 * n1)))]) hx hb dX3_readStep_53 hl (by decide) rfl (fun ls hl => ?_)
      have loop_55 : ∀ (K : Int32 → (Nat → Int32) → (ft_G) → (Int32 × ((Nat → Int32) × ft_G))) (hKx : ∀ (y4_55 : Int32) (i_55 : Nat) (hi_55 : y4_55 = nI i_55) (hm_55 : i_55 ≤ tn 3) (o_55 : Nat → Int32) (g_55 : ft_G) (H : Heap) (locs : List Loc) (hP : va_P dC vwCl (ft_WR ad k Z q pm o_55 g_55) H) (hD : va_D (ft_A 292 ad) (ft_WR ad k Z q pm o_55 g_55)) (hS : va_S (ft_A 292 ad) s.heap H locs) (hc_55 : o_55 6 = o 6) (hg_55 : g_55.1 = g.1) (ls : Array Slot) (hl : lv_has ls 6 [(0, .ref (ad 256)), (1, .ref (ad (262 + 2 * n1))), (2, .ref (Z 0 j_1)), (3, .int ((ft_ena.getD j_1 0) - 1)), (4, .int (y4_55))]) (hsp : K y4_55 o_55 g_55 = s_X3_readStep o g n1), W p l e (headSpec wsX3_readStep ({ frames := 7, cells := 0, slots := 0, locals := 157 })).room s m ([.ref (ad 256), .ref (ad (262 + 2 * n1))] : List Value).toArray below meth c H locs 0 0 (MQ below (va_Qi (fun (z : Int32) (u : ((Nat → Int32) × ft_G)) => (z, u) = s_X3_readStep o g n1) (fun (u : ((Nat → Int32) × ft_G)) (t : State) => va_P dC vwCl (ft_WR ad k Z q pm u.1 u.2) t.heap) (ft_A 292 ad)) ([.ref (ad 256), .ref (ad (262 + 2 * n1))] : List Value).toArray s 0 0 (ft_A 292 ad)) (F0 m 114 ls [])) (n_55 : Nat), ∀ (y4_55 : Int32) (i_55 : Nat) (hi_55 : y4_55 = nI i_55) (hm_55 : i_55 ≤ tn 3) (hn_55 : tn 3 < n_55 + i_55) (o_55 : Nat → Int32) (g_55 : ft_G) (H : Heap) (locs : List Loc) (hP : va_P dC vwCl (ft_WR ad k Z q pm o_55 g_55) H) (hD : va_D (ft_A 292 ad) (ft_WR ad k Z q pm o_55 g_55)) (hS : va_S (ft_A 292 ad) s.heap H locs) (hc_55 : o_55 6 = o 6) (hg_55 : g_55.1 = g.1) (ls : Array Slot) (hl : lv_has ls 6 [(0, .ref (ad 256)), (1, .ref (ad (262 + 2 * n1))), (2, .ref (Z 0 j_1)), (3, .int ((ft_ena.getD j_1 0) - 1)), (4, .int (y4_55))]) (hsp : s_X3_readStep_L55 o g n1 j_1 K n_55 y4_55 o_55 g_55 = s_X3_readStep o g n1), W p l e (headSpec wsX3_readStep ({ frames := 7, cells := 0, slots := 0, locals := 157 })).room s m ([.ref (ad 256), .ref (ad (262 + 2 * n1))] : List Value).toArray below meth c H locs 0 0 (MQ below (va_Qi (fun (z : Int32) (u : ((Nat → Int32) × ft_G)) => (z, u) = s_X3_readStep o g n1) (fun (u : ((Nat → Int32) × ft_G)) (t : State) => va_P dC vwCl (ft_WR ad k Z q pm u.1 u.2) t.heap) (ft_A 292 ad)) ([.ref (ad 256), .ref (ad (262 + 2 * n1))] : List Value).toArray s 0 0 (ft_A 292 ad)) (F0 m 55 ls []) := by
        intro K hKx n_55
        induction n_55 with
        | zero => intro y4_55 i_55 hi_55 hm_55 hn_55; exact absurd hn_55 (by omega)
        | succ n ih_55 =>
          intro y4_55 i_55 hi_55 hm_55 hn_55 o_55 g_55 H locs hP hD hS hc_55 hg_55 ls hl hsp
          rw [s_X3_readStep_L55] at hsp
          refine lv_iload hx hb dX3_readStep_55 (lv_at hl 4 rfl) ?_
          refine lv_iload_n hx hb dX3_readStep_57 rfl (lv_at hl 3 rfl) ?_
          refine lv_icmp_gt (tgt := 114) hx hb dX3_readStep_58 (by decide) (fun c_58 => ?_) (fun c_58 => ?_)
          · replace hsp := (if_pos c_58).symm.trans hsp
            exact hKx y4_55 i_55 hi_55 hm_55 o_55 g_55 _ _ hP hD hS hc_55 hg_55 ls (lv_sub hl [0, 1, 2, 3, 4] rfl) hsp
          · replace hsp := (if_neg c_58).symm.trans hsp
            refine lv_iload hx hb dX3_readStep_61 (lv_at hl 4 rfl) ?_
            refine lv_iconst (v := 3) hx hb dX3_readStep_63 (by decide) ?_
            refine lv_icmp_ge (tgt := 114) hx hb dX3_readStep_64 (by decide) (fun c_64 => ?_) (fun c_64 => ?_)
            · replace hsp := (if_pos c_64).symm.trans hsp
              exact hKx y4_55 i_55 hi_55 hm_55 o_55 g_55 _ _ hP hD hS hc_55 hg_55 ls (lv_sub hl [0, 1, 2, 3, 4] rfl) hsp
            · replace hsp := (if_neg c_64).symm.trans hsp
              have hlt_55 := ft_step hi_55 hm_55 c_64
              refine lv_aload_n hx hb dX3_readStep_67 rfl (lv_at hl 0 rfl) ?_
              refine lv_iload hx hb dX3_readStep_68 (lv_at hl 4 rfl) ?_
              refine lv_iload_n hx hb dX3_readStep_70 rfl (lv_at hl 3 rfl) ?_
              refine lv_icmp_ne (tgt := 85) hx hb dX3_readStep_71 (by decide) (fun c_71 => ?_) (fun c_71 => ?_)
              · replace hsp := (if_neg c_71).symm.trans hsp
                refine lv_iconst (v := 0) hx hb dX3_readStep_85 (by decide) ?_
                refine va_calli (va_runV (As := [.int (0)]) (rest := []) ⟨hx, hb, hml, hown, hts⟩ (c_X3_readArgument l dC Z ad k q pm o_55 g_55 0  (by rw [hc_55, hg_55]; exact hc1) (by rw [hg_55]; exact hc2)) (cwV 1 hts gX3_readStep_X3_readArgument rfl rfl rfl (by decide +kernel) ⟨Nat.le_of_ble_eq_true rfl, Nat.le_of_ble_eq_true rfl⟩) (ft_preVh hE hS (fun _ h => h) hP hD (ci := 5) (q0 := (253 + 3)) rfl (ft_get' (by decide) rfl)) rfl rfl hl.1 rfl (lv_room (Nat.le_of_ble_eq_true rfl)) dX3_readStep_86 ⟨Nat.le_of_ble_eq_true rfl, Nat.le_of_ble_eq_true rfl⟩) hS (fun q _ h => h) (fun q h => h) (fun z u t H1 locs ht hvm hw hB hz1 hk1 hS => ?_)
                obtain ⟨rfl, rfl⟩ : z = (s_X3_readArgument o_55 g_55 0).1 ∧ u = (s_X3_readArgument o_55 g_55 0).2 := ⟨congrArg Prod.fst hw, congrArg Prod.snd hw⟩
                rw [ht] at hB
                have hP : va_P dC vwCl (ft_WR ad k Z q pm ((s_X3_readArgument o_55 g_55 0).2) g_55) H1 := hB
                have hD : va_D (ft_A 292 ad) (ft_WR ad k Z q pm ((s_X3_readArgument o_55 g_55 0).2) g_55) := ft_D_va hD _
                generalize H1 = H at hP hS ⊢
                refine lv_istore (lv' := [(5, .int ((s_X3_readArgument o_55 g_55 0).1)), (0, .ref (ad 256)), (1, .ref (ad (262 + 2 * n1))), (2, .ref (Z 0 j_1)), (3, .int ((ft_ena.getD j_1 0) - 1)), (4, .int (y4_55))]) hx hb dX3_readStep_89 hl (by decide) rfl (fun ls hl => ?_)
                refine lv_iload hx hb dX3_readStep_91 (lv_at hl 0 rfl) ?_
                refine lv_iconst (v := (-1)) hx hb dX3_readStep_93 (by decide) ?_
                refine lv_icmp_ne (tgt := 99) hx hb dX3_readStep_94 (by decide) (fun c_94 => ?_) (fun c_94 => ?_)
                · replace hsp := (if_neg c_94).symm.trans hsp
                  refine lv_aload_n hx hb dX3_readStep_99 rfl (lv_at hl 2 rfl) ?_
                  refine va_getN (D := dC) (ci := 7) (v := .ref (ad (263 + 2 * n1))) (C := RX5) (T := TX5) (N := 2) hx hb hts (by decide +kernel) hown hK.1 hP (262 + 2 * n1) (ft_R_st hn1) rfl 1 (by decide) (ft_nl hK.2 22 rfl) (fun _ h9 => h9) rfl dX3_readStep_100 ?_
                  refine lv_iload hx hb dX3_readStep_103 (lv_at hl 5 rfl) ?_
                  refine lv_iload hx hb dX3_readStep_105 (lv_at hl 0 rfl) ?_
                  have h_107 : vp_in y4_55 3 := by exact ft_vin hi_55 hlt_55
                  refine va_iast hx hb hK.1 hP hD hS (263 + 2 * n1) 0 (ft_R_sa hn1) rfl h_107 dX3_readStep_107 (fun H locs hP hD hS => ?_)
                  have hP := ft_cast hP (ft_R_a hn1)
                  have hD := ft_castD hD (ft_R_a hn1)
                  have hP : va_P dC vwCl (ft_WR ad k Z q pm ((s_X3_readArgument o_55 g_55 0).2) (ft_ga g_55 n1 (tn y4_55) ((s_X3_readArgument o_55 g_55 0).1))) H := hP
                  have hD : va_D (ft_A 292 ad) (ft_WR ad k Z q pm ((s_X3_readArgument o_55 g_55 0).2) (ft_ga g_55 n1 (tn y4_55) ((s_X3_readArgument o_55 g_55 0).1))) := hD
                  refine lv_iinc (v := y4_55 + 1) (lv' := [(4, .int (y4_55 + 1)), (5, .int ((s_X3_readArgument o_55 g_55 0).1)), (0, .ref (ad 256)), (1, .ref (ad (262 + 2 * n1))), (2, .ref (Z 0 j_1)), (3, .int ((ft_ena.getD j_1 0) - 1))]) hx hb dX3_readStep_108 hl (k := 5) rfl rfl (by decide) rfl (fun ls hl => ?_)
                  refine lv_goto (tgt := 55) hx hb dX3_readStep_111 (by decide) ?_
                  exact ih_55 (y4_55 + 1) (i_55 + 1) (by rw [hi_55, nI_1]) hlt_55 (by omega) ((s_X3_readArgument o_55 g_55 0).2) (ft_ga g_55 n1 (tn y4_55) ((s_X3_readArgument o_55 g_55 0).1)) _ _ hP hD hS (by rw [ox_readArgument (by decide)]; exact hc_55) hg_55 ls (lv_sub hl [2, 3, 4, 5, 0] rfl) hsp
                · replace hsp := (if_pos c_94).symm.trans hsp
                  refine lv_iconst (v := 0) hx hb dX3_readStep_97 (by decide) ?_
                  exact W.zret (v := 0) hx hb hr (rfl) (fun t ht hW => ⟨⟨0, ((s_X3_readArgument o_55 g_55 0).2, g_55), rfl, hsp, ft_heap ht hP⟩, hS.F ht⟩) hS.2.2 dX3_readStep_98
              · replace hsp := (if_pos c_71).symm.trans hsp
                refine lv_aload_n hx hb dX3_readStep_74 rfl (lv_at hl 2 rfl) ?_
                refine ft_getfN (o := "FoodTruckRota$Command") (n := "endsWithNumber") (d := "Z") (v := .int (ft_enb.getD j_1 0)) hx hb ((hE.2.2.en.1 j_1 (hw2 j_1 ho_1)).2.2 (ft_enF.get ⟨2, by decide⟩) (List.get_mem _ _)) hS hown (ft_nl hK.2 31 rfl) (fun _ h9 => h9) dX3_readStep_75 ?_
                refine lv_if_eq (tgt := 85) hx hb dX3_readStep_78 (by decide) (fun c_78 => ?_) (fun c_78 => ?_)
                · replace hsp := (if_pos c_78).symm.trans hsp
                  refine lv_iconst (v := 0) hx hb dX3_readStep_85 (by decide) ?_
                  refine va_calli (va_runV (As := [.int (0)]) (rest := []) ⟨hx, hb, hml, hown, hts⟩ (c_X3_readArgument l dC Z ad k q pm o_55 g_55 0  (by rw [hc_55, hg_55]; exact hc1) (by rw [hg_55]; exact hc2)) (cwV 1 hts gX3_readStep_X3_readArgument rfl rfl rfl (by decide +kernel) ⟨Nat.le_of_ble_eq_true rfl, Nat.le_of_ble_eq_true rfl⟩) (ft_preVh hE hS (fun _ h => h) hP hD (ci := 5) (q0 := (253 + 3)) rfl (ft_get' (by decide) rfl)) rfl rfl hl.1 rfl (lv_room (Nat.le_of_ble_eq_true rfl)) dX3_readStep_86 ⟨Nat.le_of_ble_eq_true rfl, Nat.le_of_ble_eq_true rfl⟩) hS (fun q _ h => h) (fun q h => h) (fun z u t H1 locs ht hvm hw hB hz1 hk1 hS => ?_)
                  obtain ⟨rfl, rfl⟩ : z = (s_X3_readArgument o_55 g_55 0).1 ∧ u = (s_X3_readArgument o_55 g_55 0).2 := ⟨congrArg Prod.fst hw, congrArg Prod.snd hw⟩
                  rw [ht] at hB
                  have hP : va_P dC vwCl (ft_WR ad k Z q pm ((s_X3_readArgument o_55 g_55 0).2) g_55) H1 := hB
                  have hD : va_D (ft_A 292 ad) (ft_WR ad k Z q pm ((s_X3_readArgument o_55 g_55 0).2) g_55) := ft_D_va hD _
                  generalize H1 = H at hP hS ⊢
                  refine lv_istore (lv' := [(5, .int ((s_X3_readArgument o_55 g_55 0).1)), (0, .ref (ad 256)), (1, .ref (ad (262 + 2 * n1))), (2, .ref (Z 0 j_1)), (3, .int ((ft_ena.getD j_1 0) - 1)), (4, .int (y4_55))]) hx hb dX3_readStep_89 hl (by decide) rfl (fun ls hl => ?_)
                  refine lv_iload hx hb dX3_readStep_91 (lv_at hl 0 rfl) ?_
                  refine lv_iconst (v := (-1)) hx hb dX3_readStep_93 (by decide) ?_
                  refine lv_icmp_ne (tgt := 99) hx hb dX3_readStep_94 (by decide) (fun c_94 => ?_) (fun c_94 => ?_)
                  · replace hsp := (if_neg c_94).symm.trans hsp
                    refine lv_aload_n hx hb dX3_readStep_99 rfl (lv_at hl 2 rfl) ?_
                    refine va_getN (D := dC) (ci := 7) (v := .ref (ad (263 + 2 * n1))) (C := RX5) (T := TX5) (N := 2) hx hb hts (by decide +kernel) hown hK.1 hP (262 + 2 * n1) (ft_R_st hn1) rfl 1 (by decide) (ft_nl hK.2 22 rfl) (fun _ h9 => h9) rfl dX3_readStep_100 ?_
                    refine lv_iload hx hb dX3_readStep_103 (lv_at hl 5 rfl) ?_
                    refine lv_iload hx hb dX3_readStep_105 (lv_at hl 0 rfl) ?_
                    have h_107 : vp_in y4_55 3 := by exact ft_vin hi_55 hlt_55
                    refine va_iast hx hb hK.1 hP hD hS (263 + 2 * n1) 0 (ft_R_sa hn1) rfl h_107 dX3_readStep_107 (fun H locs hP hD hS => ?_)
                    have hP := ft_cast hP (ft_R_a hn1)
                    have hD := ft_castD hD (ft_R_a hn1)
                    have hP : va_P dC vwCl (ft_WR ad k Z q pm ((s_X3_readArgument o_55 g_55 0).2) (ft_ga g_55 n1 (tn y4_55) ((s_X3_readArgument o_55 g_55 0).1))) H := hP
                    have hD : va_D (ft_A 292 ad) (ft_WR ad k Z q pm ((s_X3_readArgument o_55 g_55 0).2) (ft_ga g_55 n1 (tn y4_55) ((s_X3_readArgument o_55 g_55 0).1))) := hD
                    refine lv_iinc (v := y4_55 + 1) (lv' := [(4, .int (y4_55 + 1)), (5, .int ((s_X3_readArgument o_55 g_55 0).1)), (0, .ref (ad 256)), (1, .ref (ad (262 + 2 * n1))), (2, .ref (Z 0 j_1)), (3, .int ((ft_ena.getD j_1 0) - 1))]) hx hb dX3_readStep_108 hl (k := 5) rfl rfl (by decide) rfl (fun ls hl => ?_)
                    refine lv_goto (tgt := 55) hx hb dX3_readStep_111 (by decide) ?_
                    exact ih_55 (y4_55 + 1) (i_55 + 1) (by rw [hi_55, nI_1]) hlt_55 (by omega) ((s_X3_readArgument o_55 g_55 0).2) (ft_ga g_55 n1 (tn y4_55) ((s_X3_readArgument o_55 g_55 0).1)) _ _ hP hD hS (by rw [ox_readArgument (by decide)]; exact hc_55) hg_55 ls (lv_sub hl [2, 3, 4, 5, 0] rfl) hsp
                  · replace hsp := (if_pos c_94).symm.trans hsp
                    refine lv_iconst (v := 0) hx hb dX3_readStep_97 (by decide) ?_
                    exact W.zret (v := 0) hx hb hr (rfl) (fun t ht hW => ⟨⟨0, ((s_X3_readArgument o_55 g_55 0).2, g_55), rfl, hsp, ft_heap ht hP⟩, hS.F ht⟩) hS.2.2 dX3_readStep_98
                · replace hsp := (if_neg c_78).symm.trans hsp
                  refine lv_iconst (v := 1) hx hb dX3_readStep_81 (by decide) ?_
                  refine lv_goto (tgt := 86) hx hb dX3_readStep_82 (by decide) ?_
                  refine va_calli (va_runV (As := [.int (1)]) (rest := []) ⟨hx, hb, hml, hown, hts⟩ (c_X3_readArgument l dC Z ad k q pm o_55 g_55 1  (by rw [hc_55, hg_55]; exact hc1) (by rw [hg_55]; exact hc2)) (cwV 1 hts gX3_readStep_X3_readArgument rfl rfl rfl (by decide +kernel) ⟨Nat.le_of_ble_eq_true rfl, Nat.le_of_ble_eq_true rfl⟩) (ft_preVh hE hS (fun _ h => h) hP hD (ci := 5) (q0 := (253 + 3)) rfl (ft_get' (by decide) rfl)) rfl rfl hl.1 rfl (lv_room (Nat.le_of_ble_eq_true rfl)) dX3_readStep_86 ⟨Nat.le_of_ble_eq_true rfl, Nat.le_of_ble_eq_true rfl⟩) hS (fun q _ h => h) (fun q h => h) (fun z u t H1 locs ht hvm hw hB hz1 hk1 hS => ?_)
                  obtain ⟨rfl, rfl⟩ : z = (s_X3_readArgument o_55 g_55 1).1 ∧ u = (s_X3_readArgument o_55 g_55 1).2 := ⟨congrArg Prod.fst hw, congrArg Prod.snd hw⟩
                  rw [ht] at hB
                  have hP : va_P dC vwCl (ft_WR ad k Z q pm ((s_X3_readArgument o_55 g_55 1).2) g_55) H1 := hB
                  have hD : va_D (ft_A 292 ad) (ft_WR ad k Z q pm ((s_X3_readArgument o_55 g_55 1).2) g_55) := ft_D_va hD _
                  generalize H1 = H at hP hS ⊢
                  refine lv_istore (lv' := [(5, .int ((s_X3_readArgument o_55 g_55 1).1)), (0, .ref (ad 256)), (1, .ref (ad (262 + 2 * n1))), (2, .ref (Z 0 j_1)), (3, .int ((ft_ena.getD j_1 0) - 1)), (4, .int (y4_55))]) hx hb dX3_readStep_89 hl (by decide) rfl (fun ls hl => ?_)
                  refine lv_iload hx hb dX3_readStep_91 (lv_at hl 0 rfl) ?_
                  refine lv_iconst (v := (-1)) hx hb dX3_readStep_93 (by decide) ?_
                  refine lv_icmp_ne (tgt := 99) hx hb dX3_readStep_94 (by decide) (fun c_94 => ?_) (fun c_94 => ?_)
                  · replace hsp := (if_neg c_94).symm.trans hsp
                    refine lv_aload_n hx hb dX3_readStep_99 rfl (lv_at hl 2 rfl) ?_
                    refine va_getN (D := dC) (ci := 7) (v := .ref (ad (263 + 2 * n1))) (C := RX5) (T := TX5) (N := 2) hx hb hts (by decide +kernel) hown hK.1 hP (262 + 2 * n1) (ft_R_st hn1) rfl 1 (by decide) (ft_nl hK.2 22 rfl) (fun _ h9 => h9) rfl dX3_readStep_100 ?_
                    refine lv_iload hx hb dX3_readStep_103 (lv_at hl 5 rfl) ?_
                    refine lv_iload hx hb dX3_readStep_105 (lv_at hl 0 rfl) ?_
                    have h_107 : vp_in y4_55 3 := by exact ft_vin hi_55 hlt_55
                    refine va_iast hx hb hK.1 hP hD hS (263 + 2 * n1) 0 (ft_R_sa hn1) rfl h_107 dX3_readStep_107 (fun H locs hP hD hS => ?_)
                    have hP := ft_cast hP (ft_R_a hn1)
                    have hD := ft_castD hD (ft_R_a hn1)
                    have hP : va_P dC vwCl (ft_WR ad k Z q pm ((s_X3_readArgument o_55 g_55 1).2) (ft_ga g_55 n1 (tn y4_55) ((s_X3_readArgument o_55 g_55 1).1))) H := hP
                    have hD : va_D (ft_A 292 ad) (ft_WR ad k Z q pm ((s_X3_readArgument o_55 g_55 1).2) (ft_ga g_55 n1 (tn y4_55) ((s_X3_readArgument o_55 g_55 1).1))) := hD
                    refine lv_iinc (v := y4_55 + 1) (lv' := [(4, .int (y4_55 + 1)), (5, .int ((s_X3_readArgument o_55 g_55 1).1)), (0, .ref (ad 256)), (1, .ref (ad (262 + 2 * n1))), (2, .ref (Z 0 j_1)), (3, .int ((ft_ena.getD j_1 0) - 1))]) hx hb dX3_readStep_108 hl (k := 5) rfl rfl (by decide) rfl (fun ls hl => ?_)
                    refine lv_goto (tgt := 55) hx hb dX3_readStep_111 (by decide) ?_
                    exact ih_55 (y4_55 + 1) (i_55 + 1) (by rw [hi_55, nI_1]) hlt_55 (by omega) ((s_X3_readArgument o_55 g_55 1).2) (ft_ga g_55 n1 (tn y4_55) ((s_X3_readArgument o_55 g_55 1).1)) _ _ hP hD hS (by rw [ox_readArgument (by decide)]; exact hc_55) hg_55 ls (lv_sub hl [2, 3, 4, 5, 0] rfl) hsp
                  · replace hsp := (if_pos c_94).symm.trans hsp
                    refine lv_iconst (v := 0) hx hb dX3_readStep_97 (by decide) ?_
                    exact W.zret (v := 0) hx hb hr (rfl) (fun t ht hW => ⟨⟨0, ((s_X3_readArgument o_55 g_55 1).2, g_55), rfl, hsp, ft_heap ht hP⟩, hS.F ht⟩) hS.2.2 dX3_readStep_98
      refine loop_55 _ (fun y4_55 i_55 hi_55 hm_55 o_55 g_55 H locs hP hD hS hc_55 hg_55 ls hl hsp => ?_) (tn 3 + 1) 0 0 rfl (by omega) (by omega) ((s_X3_readWord o g).2) (ft_gc g n1 j_1) _ _ hP hD hS (ox_readWord (by decide)) rfl ls (lv_sub hl [3, 4, 2, 1, 0] rfl) hsp
      refine lv_iconst (v := 1) hx hb dX3_readStep_114 (by decide) ?_
      exact W.zret (v := 1) hx hb hr (rfl) (fun t ht hW => ⟨⟨1, (o_55, g_55), rfl, hsp, ft_heap ht hP⟩, hS.F ht⟩) hS.2.2 dX3_readStep_115
    · have c_20 : j_1 = 8 := hE.2.2.en.2 _ _ (hw2 j_1 ho_1) (by decide) (Option.some.inj c_20)
      replace hsp := (if_pos c_20).symm.trans hsp
      refine lv_aload_n hx hb dX3_readStep_23 rfl (lv_at hl 1 rfl) ?_
      refine lv_aload_n hx hb dX3_readStep_24 rfl (lv_at hl 1 rfl) ?_
      refine va_get (D := dC) (ci := 5) (v := .int (((s_X3_readWord o g).2) 5)) (C := RX3) (T := TX3) (N := 4) hx hb hts (by decide +kernel) hown hK.1 hP (253 + 3) (ft_get' (by decide) rfl) rfl 3 (by decide) (hts (.fieldLink RX3 25 "FoodTruckRota$Script" "position" "I") (by decide +kernel)) (fun _ h9 => h9) rfl dX3_readStep_25 ?_
      refine lv_bipush (v := 32) hx hb dX3_readStep_28 (by decide) ?_
      refine vp_callSi (va_Run.run (va_runV (As := [.int (((s_X3_readWord o g).2) 5), .int (32)]) (rest := []) ⟨hx, hb, hml, hown, hts⟩ (c_X3_hasAt l dC Z ad k q pm ((s_X3_readWord o g).2) (ft_gc g n1 j_1) (((s_X3_readWord o g).2) 5) 32  (by rw [ox_readWord (by decide)]; exact hc1) hc2) (cwV 2 hts gX3_readStep_X3_hasAt rfl rfl rfl (by decide +kernel) ⟨Nat.le_of_ble_eq_true rfl, Nat.le_of_ble_eq_true rfl⟩) (ft_preVg hE hS (fun _ h => h) hP (ci := 5) (q0 := (253 + 3)) rfl (ft_get' (by decide) rfl)) rfl rfl hl.1 rfl (lv_room (Nat.le_of_ble_eq_true rfl)) dX3_readStep_30 ⟨Nat.le_of_ble_eq_true rfl, Nat.le_of_ble_eq_true rfl⟩)) (fun z hz => ?_)
      subst hz
      refine lv_if_ne (tgt := 45) hx hb dX3_readStep_33 (by decide) (fun c_33 => ?_) (fun c_33 => ?_)
      · replace hsp := (if_neg c_33).symm.trans hsp
        refine lv_aload_n hx hb dX3_readStep_45 rfl (lv_at hl 0 rfl) ?_
        refine ft_getfN (o := "FoodTruckRota$Command") (n := "argumentTotal") (d := "I") (v := .int (ft_ena.getD j_1 0)) hx hb ((hE.2.2.en.1 j_1 (hw2 j_1 ho_1)).2.2 (ft_enF.get ⟨1, by decide⟩) (List.get_mem _ _)) hS hown (ft_nl hK.2 30 rfl) (fun _ h9 => h9) dX3_readStep_46 ?_
        refine lv_iconst (v := 1) hx hb dX3_readStep_49 (by decide) ?_
        refine lv_isub hx hb dX3_readStep_50 ?_
        refine lv_istore_n (lv' := [(3, .int ((ft_ena.getD j_1 0) - 1)), (2, .ref (Z 0 j_1)), (0, .ref (ad 256)), (1, .ref (ad (262 + 2 * n1)))]) hx hb dX3_readStep_51 rfl hl (by decide) rfl (fun ls hl => ?_)
        refine lv_iconst (v := 0) hx hb dX3_readStep_52 (by decide) ?_
        refine lv_istore (lv' := [(4, .int (0)), (3, .int ((ft_ena.getD j_1 0) - 1)), (2, .ref (Z 0 j_1)), (0, .ref (ad 256)), (1, .ref (ad (262 + 2 * n1)))]) hx hb dX3_readStep_53 hl (by decide) rfl (fun ls hl => ?_)
        have loop_55 : ∀ (K : Int32 → (Nat → Int32) → (ft_G) → (Int32 × ((Nat → Int32) × ft_G))) (hKx : ∀ (y4_55 : Int32) (i_55 : Nat) (hi_55 : y4_55 = nI i_55) (hm_55 : i_55 ≤ tn 3) (o_55 : Nat → Int32) (g_55 : ft_G) (H : Heap) (locs : List Loc) (hP : va_P dC vwCl (ft_WR ad k Z q pm o_55 g_55) H) (hD : va_D (ft_A 292 ad) (ft_WR ad k Z q pm o_55 g_55)) (hS : va_S (ft_A 292 ad) s.heap H locs) (hc_55 : o_55 6 = o 6) (hg_55 : g_55.1 = g.1) (ls : Array Slot) (hl : lv_has ls 6 [(0, .ref (ad 256)), (1, .ref (ad (262 + 2 * n1))), (2, .ref (Z 0 j_1)), (3, .int ((ft_ena.getD j_1 0) - 1)), (4, .int (y4_55))]) (hsp : K y4_55 o_55 g_55 = s_X3_readStep o g n1), W p l e (headSpec wsX3_readStep ({ frames := 7, cells := 0, slots := 0, locals := 157 })).room s m ([.ref (ad 256), .ref (ad (262 + 2 * n1))] : List Value).toArray below meth c H locs 0 0 (MQ below (va_Qi (fun (z : Int32) (u : ((Nat → Int32) × ft_G)) => (z, u) = s_X3_readStep o g n1) (fun (u : ((Nat → Int32) × ft_G)) (t : State) => va_P dC vwCl (ft_WR ad k Z q pm u.1 u.2) t.heap) (ft_A 292 ad)) ([.ref (ad 256), .ref (ad (262 + 2 * n1))] : List Value).toArray s 0 0 (ft_A 292 ad)) (F0 m 114 ls [])) (n_55 : Nat), ∀ (y4_55 : Int32) (i_55 : Nat) (hi_55 : y4_55 = nI i_55) (hm_55 : i_55 ≤ tn 3) (hn_55 : tn 3 < n_55 + i_55) (o_55 : Nat → Int32) (g_55 : ft_G) (H : Heap) (locs : List Loc) (hP : va_P dC vwCl (ft_WR ad k Z q pm o_55 g_55) H) (hD : va_D (ft_A 292 ad) (ft_WR ad k Z q pm o_55 g_55)) (hS : va_S (ft_A 292 ad) s.heap H locs) (hc_55 : o_55 6 = o 6) (hg_55 : g_55.1 = g.1) (ls : Array Slot) (hl : lv_has ls 6 [(0, .ref (ad 256)), (1, .ref (ad (262 + 2 * n1))), (2, .ref (Z 0 j_1)), (3, .int ((ft_ena.getD j_1 0) - 1)), (4, .int (y4_55))]) (hsp : s_X3_readStep_L55 o g n1 j_1 K n_55 y4_55 o_55 g_55 = s_X3_readStep o g n1), W p l e (headSpec wsX3_readStep ({ frames := 7, cells := 0, slots := 0, locals := 157 })).room s m ([.ref (ad 256), .ref (ad (262 + 2 * n1))] : List Value).toArray below meth c H locs 0 0 (MQ below (va_Qi (fun (z : Int32) (u : ((Nat → Int32) × ft_G)) => (z, u) = s_X3_readStep o g n1) (fun (u : ((Nat → Int32) × ft_G)) (t : State) => va_P dC vwCl (ft_WR ad k Z q pm u.1 u.2) t.heap) (ft_A 292 ad)) ([.ref (ad 256), .ref (ad (262 + 2 * n1))] : List Value).toArray s 0 0 (ft_A 292 ad)) (F0 m 55 ls []) := by
          intro K hKx n_55
          induction n_55 with
          | zero => intro y4_55 i_55 hi_55 hm_55 hn_55; exact absurd hn_55 (by omega)
          | succ n ih_55 =>
            intro y4_55 i_55 hi_55 hm_55 hn_55 o_55 g_55 H locs hP hD hS hc_55 hg_55 ls hl hsp
            rw [s_X3_readStep_L55] at hsp
            refine lv_iload hx hb dX3_readStep_55 (lv_at hl 4 rfl) ?_
            refine lv_iload_n hx hb dX3_readStep_57 rfl (lv_at hl 3 rfl) ?_
            refine lv_icmp_gt (tgt := 114) hx hb dX3_readStep_58 (by decide) (fun c_58 => ?_) (fun c_58 => ?_)
            · replace hsp := (if_pos c_58).symm.trans hsp
              exact hKx y4_55 i_55 hi_55 hm_55 o_55 g_55 _ _ hP hD hS hc_55 hg_55 ls (lv_sub hl [0, 1, 2, 3, 4] rfl) hsp
            · replace hsp := (if_neg c_58).symm.trans hsp
              refine lv_iload hx hb dX3_readStep_61 (lv_at hl 4 rfl) ?_
              refine lv_iconst (v := 3) hx hb dX3_readStep_63 (by decide) ?_
              refine lv_icmp_ge (tgt := 114) hx hb dX3_readStep_64 (by decide) (fun c_64 => ?_) (fun c_64 => ?_)
              · replace hsp := (if_pos c_64).symm.trans hsp
                exact hKx y4_55 i_55 hi_55 hm_55 o_55 g_55 _ _ hP hD hS hc_55 hg_55 ls (lv_sub hl [0, 1, 2, 3, 4] rfl) hsp
              · replace hsp := (if_neg c_64).symm.trans hsp
                have hlt_55 := ft_step hi_55 hm_55 c_64
                refine lv_aload_n hx hb dX3_readStep_67 rfl (lv_at hl 0 rfl) ?_
                refine lv_iload hx hb dX3_readStep_68 (lv_at hl 4 rfl) ?_
                refine lv_iload_n hx hb dX3_readStep_70 rfl (lv_at hl 3 rfl) ?_
                refine lv_icmp_ne (tgt := 85) hx hb dX3_readStep_71 (by decide) (fun c_71 => ?_) (fun c_71 => ?_)
                · replace hsp := (if_neg c_71).symm.trans hsp
                  refine lv_iconst (v := 0) hx hb dX3_readStep_85 (by decide) ?_
                  refine va_calli (va_runV (As := [.int (0)]) (rest := []) ⟨hx, hb, hml, hown, hts⟩ (c_X3_readArgument l dC Z ad k q pm o_55 g_55 0  (by rw [hc_55, hg_55]; exact hc1) (by rw [hg_55]; exact hc2)) (cwV 1 hts gX3_readStep_X3_readArgument rfl rfl rfl (by decide +kernel) ⟨Nat.le_of_ble_eq_true rfl, Nat.le_of_ble_eq_true rfl⟩) (ft_preVh hE hS (fun _ h => h) hP hD (ci := 5) (q0 := (253 + 3)) rfl (ft_get' (by decide) rfl)) rfl rfl hl.1 rfl (lv_room (Nat.le_of_ble_eq_true rfl)) dX3_readStep_86 ⟨Nat.le_of_ble_eq_true rfl, Nat.le_of_ble_eq_true rfl⟩) hS (fun q _ h => h) (fun q h => h) (fun z u t H1 locs ht hvm hw hB hz1 hk1 hS => ?_)
                  obtain ⟨rfl, rfl⟩ : z = (s_X3_readArgument o_55 g_55 0).1 ∧ u = (s_X3_readArgument o_55 g_55 0).2 := ⟨congrArg Prod.fst hw, congrArg Prod.snd hw⟩
                  rw [ht] at hB
                  have hP : va_P dC vwCl (ft_WR ad k Z q pm ((s_X3_readArgument o_55 g_55 0).2) g_55) H1 := hB
                  have hD : va_D (ft_A 292 ad) (ft_WR ad k Z q pm ((s_X3_readArgument o_55 g_55 0).2) g_55) := ft_D_va hD _
                  generalize H1 = H at hP hS ⊢
                  refine lv_istore (lv' := [(5, .int ((s_X3_readArgument o_55 g_55 0).1)), (0, .ref (ad 256)), (1, .ref (ad (262 + 2 * n1))), (2, .ref (Z 0 j_1)), (3, .int ((ft_ena.getD j_1 0) - 1)), (4, .int (y4_55))]) hx hb dX3_readStep_89 hl (by decide) rfl (fun ls hl => ?_)
                  refine lv_iload hx hb dX3_readStep_91 (lv_at hl 0 rfl) ?_
                  refine lv_iconst (v := (-1)) hx hb dX3_readStep_93 (by decide) ?_
                  refine lv_icmp_ne (tgt := 99) hx hb dX3_readStep_94 (by decide) (fun c_94 => ?_) (fun c_94 => ?_)
                  · replace hsp := (if_neg c_94).symm.trans hsp
                    refine lv_aload_n hx hb dX3_readStep_99 rfl (lv_at hl 2 rfl) ?_
                    refine va_getN (D := dC) (ci := 7) (v := .ref (ad (263 + 2 * n1))) (C := RX5) (T := TX5) (N := 2) hx hb hts (by decide +kernel) hown hK.1 hP (262 + 2 * n1) (ft_R_st hn1) rfl 1 (by decide) (ft_nl hK.2 22 rfl) (fun _ h9 => h9) rfl dX3_readStep_100 ?_
                    refine lv_iload hx hb dX3_readStep_103 (lv_at hl 5 rfl) ?_
                    refine lv_iload hx hb dX3_readStep_105 (lv_at hl 0 rfl) ?_
                    have h_107 : vp_in y4_55 3 := by exact ft_vin hi_55 hlt_55
                    refine va_iast hx hb hK.1 hP hD hS (263 + 2 * n1) 0 (ft_R_sa hn1) rfl h_107 dX3_readStep_107 (fun H locs hP hD hS => ?_)
                    have hP := ft_cast hP (ft_R_a hn1)
                    have hD := ft_castD hD (ft_R_a hn1)
                    have hP : va_P dC vwCl (ft_WR ad k Z q pm ((s_X3_readArgument o_55 g_55 0).2) (ft_ga g_55 n1 (tn y4_55) ((s_X3_readArgument o_55 g_55 0).1))) H := hP
                    have hD : va_D (ft_A 292 ad) (ft_WR ad k Z q pm ((s_X3_readArgument o_55 g_55 0).2) (ft_ga g_55 n1 (tn y4_55) ((s_X3_readArgument o_55 g_55 0).1))) := hD
                    refine lv_iinc (v := y4_55 + 1) (lv' := [(4, .int (y4_55 + 1)), (5, .int ((s_X3_readArgument o_55 g_55 0).1)), (0, .ref (ad 256)), (1, .ref (ad (262 + 2 * n1))), (2, .ref (Z 0 j_1)), (3, .int ((ft_ena.getD j_1 0) - 1))]) hx hb dX3_readStep_108 hl (k := 5) rfl rfl (by decide) rfl (fun ls hl => ?_)
                    refine lv_goto (tgt := 55) hx hb dX3_readStep_111 (by decide) ?_
                    exact ih_55 (y4_55 + 1) (i_55 + 1) (by rw [hi_55, nI_1]) hlt_55 (by omega) ((s_X3_readArgument o_55 g_55 0).2) (ft_ga g_55 n1 (tn y4_55) ((s_X3_readArgument o_55 g_55 0).1)) _ _ hP hD hS (by rw [ox_readArgument (by decide)]; exact hc_55) hg_55 ls (lv_sub hl [2, 3, 4, 5, 0] rfl) hsp
                  · replace hsp := (if_pos c_94).symm.trans hsp
                    refine lv_iconst (v := 0) hx hb dX3_readStep_97 (by decide) ?_
                    exact W.zret (v := 0) hx hb hr (rfl) (fun t ht hW => ⟨⟨0, ((s_X3_readArgument o_55 g_55 0).2, g_55), rfl, hsp, ft_heap ht hP⟩, hS.F ht⟩) hS.2.2 dX3_readStep_98
                · replace hsp := (if_pos c_71).symm.trans hsp
                  refine lv_aload_n hx hb dX3_readStep_74 rfl (lv_at hl 2 rfl) ?_
                  refine ft_getfN (o := "FoodTruckRota$Command") (n := "endsWithNumber") (d := "Z") (v := .int (ft_enb.getD j_1 0)) hx hb ((hE.2.2.en.1 j_1 (hw2 j_1 ho_1)).2.2 (ft_enF.get ⟨2, by decide⟩) (List.get_mem _ _)) hS hown (ft_nl hK.2 31 rfl) (fun _ h9 => h9) dX3_readStep_75 ?_
                  refine lv_if_eq (tgt := 85) hx hb dX3_readStep_78 (by decide) (fun c_78 => ?_) (fun c_78 => ?_)
                  · replace hsp := (if_pos c_78).symm.trans hsp
                    refine lv_iconst (v := 0) hx hb dX3_readStep_85 (by decide) ?_
                    refine va_calli (va_runV (As := [.int (0)]) (rest := []) ⟨hx, hb, hml, hown, hts⟩ (c_X3_readArgument l dC Z ad k q pm o_55 g_55 0  (by rw [hc_55, hg_55]; exact hc1) (by rw [hg_55]; exact hc2)) (cwV 1 hts gX3_readStep_X3_readArgument rfl rfl rfl (by decide +kernel) ⟨Nat.le_of_ble_eq_true rfl, Nat.le_of_ble_eq_true rfl⟩) (ft_preVh hE hS (fun _ h => h) hP hD (ci := 5) (q0 := (253 + 3)) rfl (ft_get' (by decide) rfl)) rfl rfl hl.1 rfl (lv_room (Nat.le_of_ble_eq_true rfl)) dX3_readStep_86 ⟨Nat.le_of_ble_eq_true rfl, Nat.le_of_ble_eq_true rfl⟩) hS (fun q _ h => h) (fun q h => h) (fun z u t H1 locs ht hvm hw hB hz1 hk1 hS => ?_)
                    obtain ⟨rfl, rfl⟩ : z = (s_X3_readArgument o_55 g_55 0).1 ∧ u = (s_X3_readArgument o_55 g_55 0).2 := ⟨congrArg Prod.fst hw, congrArg Prod.snd hw⟩
                    rw [ht] at hB
                    have hP : va_P dC vwCl (ft_WR ad k Z q pm ((s_X3_readArgument o_55 g_55 0).2) g_55) H1 := hB
                    have hD : va_D (ft_A 292 ad) (ft_WR ad k Z q pm ((s_X3_readArgument o_55 g_55 0).2) g_55) := ft_D_va hD _
                    generalize H1 = H at hP hS ⊢
                    refine lv_istore (lv' := [(5, .int ((s_X3_readArgument o_55 g_55 0).1)), (0, .ref (ad 256)), (1, .ref (ad (262 + 2 * n1))), (2, .ref (Z 0 j_1)), (3, .int ((ft_ena.getD j_1 0) - 1)), (4, .int (y4_55))]) hx hb dX3_readStep_89 hl (by decide) rfl (fun ls hl => ?_)
                    refine lv_iload hx hb dX3_readStep_91 (lv_at hl 0 rfl) ?_
                    refine lv_iconst (v := (-1)) hx hb dX3_readStep_93 (by decide) ?_
                    refine lv_icmp_ne (tgt := 99) hx hb dX3_readStep_94 (by decide) (fun c_94 => ?_) (fun c_94 => ?_)
                    · replace hsp := (if_neg c_94).symm.trans hsp
                      refine lv_aload_n hx hb dX3_readStep_99 rfl (lv_at hl 2 rfl) ?_
                      refine va_getN (D := dC) (ci := 7) (v := .ref (ad (263 + 2 * n1))) (C := RX5) (T := TX5) (N := 2) hx hb hts (by decide +kernel) hown hK.1 hP (262 + 2 * n1) (ft_R_st hn1) rfl 1 (by decide) (ft_nl hK.2 22 rfl) (fun _ h9 => h9) rfl dX3_readStep_100 ?_
                      refine lv_iload hx hb dX3_readStep_103 (lv_at hl 5 rfl) ?_
                      refine lv_iload hx hb dX3_readStep_105 (lv_at hl 0 rfl) ?_
                      have h_107 : vp_in y4_55 3 := by exact ft_vin hi_55 hlt_55
                      refine va_iast hx hb hK.1 hP hD hS (263 + 2 * n1) 0 (ft_R_sa hn1) rfl h_107 dX3_readStep_107 (fun H locs hP hD hS => ?_)
                      have hP := ft_cast hP (ft_R_a hn1)
                      have hD := ft_castD hD (ft_R_a hn1)
                      have hP : va_P dC vwCl (ft_WR ad k Z q pm ((s_X3_readArgument o_55 g_55 0).2) (ft_ga g_55 n1 (tn y4_55) ((s_X3_readArgument o_55 g_55 0).1))) H := hP
                      have hD : va_D (ft_A 292 ad) (ft_WR ad k Z q pm ((s_X3_readArgument o_55 g_55 0).2) (ft_ga g_55 n1 (tn y4_55) ((s_X3_readArgument o_55 g_55 0).1))) := hD
                      refine lv_iinc (v := y4_55 + 1) (lv' := [(4, .int (y4_55 + 1)), (5, .int ((s_X3_readArgument o_55 g_55 0).1)), (0, .ref (ad 256)), (1, .ref (ad (262 + 2 * n1))), (2, .ref (Z 0 j_1)), (3, .int ((ft_ena.getD j_1 0) - 1))]) hx hb dX3_readStep_108 hl (k := 5) rfl rfl (by decide) rfl (fun ls hl => ?_)
                      refine lv_goto (tgt := 55) hx hb dX3_readStep_111 (by decide) ?_
                      exact ih_55 (y4_55 + 1) (i_55 + 1) (by rw [hi_55, nI_1]) hlt_55 (by omega) ((s_X3_readArgument o_55 g_55 0).2) (ft_ga g_55 n1 (tn y4_55) ((s_X3_readArgument o_55 g_55 0).1)) _ _ hP hD hS (by rw [ox_readArgument (by decide)]; exact hc_55) hg_55 ls (lv_sub hl [2, 3, 4, 5, 0] rfl) hsp
                    · replace hsp := (if_pos c_94).symm.trans hsp
                      refine lv_iconst (v := 0) hx hb dX3_readStep_97 (by decide) ?_
                      exact W.zret (v := 0) hx hb hr (rfl) (fun t ht hW => ⟨⟨0, ((s_X3_readArgument o_55 g_55 0).2, g_55), rfl, hsp, ft_heap ht hP⟩, hS.F ht⟩) hS.2.2 dX3_readStep_98
                  · replace hsp := (if_neg c_78).symm.trans hsp
                    refine lv_iconst (v := 1) hx hb dX3_readStep_81 (by decide) ?_
                    refine lv_goto (tgt := 86) hx hb dX3_readStep_82 (by decide) ?_
                    refine va_calli (va_runV (As := [.int (1)]) (rest := []) ⟨hx, hb, hml, hown, hts⟩ (c_X3_readArgument l dC Z ad k q pm o_55 g_55 1  (by rw [hc_55, hg_55]; exact hc1) (by rw [hg_55]; exact hc2)) (cwV 1 hts gX3_readStep_X3_readArgument rfl rfl rfl (by decide +kernel) ⟨Nat.le_of_ble_eq_true rfl, Nat.le_of_ble_eq_true rfl⟩) (ft_preVh hE hS (fun _ h => h) hP hD (ci := 5) (q0 := (253 + 3)) rfl (ft_get' (by decide) rfl)) rfl rfl hl.1 rfl (lv_room (Nat.le_of_ble_eq_true rfl)) dX3_readStep_86 ⟨Nat.le_of_ble_eq_true rfl, Nat.le_of_ble_eq_true rfl⟩) hS (fun q _ h => h) (fun q h => h) (fun z u t H1 locs ht hvm hw hB hz1 hk1 hS => ?_)
                    obtain ⟨rfl, rfl⟩ : z = (s_X3_readArgument o_55 g_55 1).1 ∧ u = (s_X3_readArgument o_55 g_55 1).2 := ⟨congrArg Prod.fst hw, congrArg Prod.snd hw⟩
                    rw [ht] at hB
                    have hP : va_P dC vwCl (ft_WR ad k Z q pm ((s_X3_readArgument o_55 g_55 1).2) g_55) H1 := hB
                    have hD : va_D (ft_A 292 ad) (ft_WR ad k Z q pm ((s_X3_readArgument o_55 g_55 1).2) g_55) := ft_D_va hD _
                    generalize H1 = H at hP hS ⊢
                    refine lv_istore (lv' := [(5, .int ((s_X3_readArgument o_55 g_55 1).1)), (0, .ref (ad 256)), (1, .ref (ad (262 + 2 * n1))), (2, .ref (Z 0 j_1)), (3, .int ((ft_ena.getD j_1 0) - 1)), (4, .int (y4_55))]) hx hb dX3_readStep_89 hl (by decide) rfl (fun ls hl => ?_)
                    refine lv_iload hx hb dX3_readStep_91 (lv_at hl 0 rfl) ?_
                    refine lv_iconst (v := (-1)) hx hb dX3_readStep_93 (by decide) ?_
                    refine lv_icmp_ne (tgt := 99) hx hb dX3_readStep_94 (by decide) (fun c_94 => ?_) (fun c_94 => ?_)
                    · replace hsp := (if_neg c_94).symm.trans hsp
                      refine lv_aload_n hx hb dX3_readStep_99 rfl (lv_at hl 2 rfl) ?_
                      refine va_getN (D := dC) (ci := 7) (v := .ref (ad (263 + 2 * n1))) (C := RX5) (T := TX5) (N := 2) hx hb hts (by decide +kernel) hown hK.1 hP (262 + 2 * n1) (ft_R_st hn1) rfl 1 (by decide) (ft_nl hK.2 22 rfl) (fun _ h9 => h9) rfl dX3_readStep_100 ?_
                      refine lv_iload hx hb dX3_readStep_103 (lv_at hl 5 rfl) ?_
                      refine lv_iload hx hb dX3_readStep_105 (lv_at hl 0 rfl) ?_
                      have h_107 : vp_in y4_55 3 := by exact ft_vin hi_55 hlt_55
                      refine va_iast hx hb hK.1 hP hD hS (263 + 2 * n1) 0 (ft_R_sa hn1) rfl h_107 dX3_readStep_107 (fun H locs hP hD hS => ?_)
                      have hP := ft_cast hP (ft_R_a hn1)
                      have hD := ft_castD hD (ft_R_a hn1)
                      have hP : va_P dC vwCl (ft_WR ad k Z q pm ((s_X3_readArgument o_55 g_55 1).2) (ft_ga g_55 n1 (tn y4_55) ((s_X3_readArgument o_55 g_55 1).1))) H := hP
                      have hD : va_D (ft_A 292 ad) (ft_WR ad k Z q pm ((s_X3_readArgument o_55 g_55 1).2) (ft_ga g_55 n1 (tn y4_55) ((s_X3_readArgument o_55 g_55 1).1))) := hD
                      refine lv_iinc (v := y4_55 + 1) (lv' := [(4, .int (y4_55 + 1)), (5, .int ((s_X3_readArgument o_55 g_55 1).1)), (0, .ref (ad 256)), (1, .ref (ad (262 + 2 * n1))), (2, .ref (Z 0 j_1)), (3, .int ((ft_ena.getD j_1 0) - 1))]) hx hb dX3_readStep_108 hl (k := 5) rfl rfl (by decide) rfl (fun ls hl => ?_)
                      refine lv_goto (tgt := 55) hx hb dX3_readStep_111 (by decide) ?_
                      exact ih_55 (y4_55 + 1) (i_55 + 1) (by rw [hi_55, nI_1]) hlt_55 (by omega) ((s_X3_readArgument o_55 g_55 1).2) (ft_ga g_55 n1 (tn y4_55) ((s_X3_readArgument o_55 g_55 1).1)) _ _ hP hD hS (by rw [ox_readArgument (by decide)]; exact hc_55) hg_55 ls (lv_sub hl [2, 3, 4, 5, 0] rfl) hsp
                    · replace hsp := (if_pos c_94).symm.trans hsp
                      refine lv_iconst (v := 0) hx hb dX3_readStep_97 (by decide) ?_
                      exact W.zret (v := 0) hx hb hr (rfl) (fun t ht hW => ⟨⟨0, ((s_X3_readArgument o_55 g_55 1).2, g_55), rfl, hsp, ft_heap ht hP⟩, hS.F ht⟩) hS.2.2 dX3_readStep_98
        refine loop_55 _ (fun y4_55 i_55 hi_55 hm_55 o_55 g_55 H locs hP hD hS hc_55 hg_55 ls hl hsp => ?_) (tn 3 + 1) 0 0 rfl (by omega) (by omega) ((s_X3_readWord o g).2) (ft_gc g n1 j_1) _ _ hP hD hS (ox_readWord (by decide)) rfl ls (lv_sub hl [3, 4, 2, 1, 0] rfl) hsp
        refine lv_iconst (v := 1) hx hb dX3_readStep_114 (by decide) ?_
        exact W.zret (v := 1) hx hb hr (rfl) (fun t ht hW => ⟨⟨1, (o_55, g_55), rfl, hsp, ft_heap ht hP⟩, hS.F ht⟩) hS.2.2 dX3_readStep_115
      · replace hsp := (if_pos c_33).symm.trans hsp
        refine lv_aload_n hx hb dX3_readStep_36 rfl (lv_at hl 2 rfl) ?_
        refine va_getN (D := dC) (ci := 7) (v := .ref (ad (263 + 2 * n1))) (C := RX5) (T := TX5) (N := 2) hx hb hts (by decide +kernel) hown hK.1 hP (262 + 2 * n1) (ft_R_st hn1) rfl 1 (by decide) (ft_nl hK.2 22 rfl) (fun _ h9 => h9) rfl dX3_readStep_37 ?_
        refine lv_iconst (v := 0) hx hb dX3_readStep_40 (by decide) ?_
        refine lv_iconst (v := 1) hx hb dX3_readStep_41 (by decide) ?_
        have h_42 : vp_in 0 3 := by exact pk_in 0 3 (by decide)
        refine va_iast hx hb hK.1 hP hD hS (263 + 2 * n1) 0 (ft_R_sa hn1) rfl h_42 dX3_readStep_42 (fun H locs hP hD hS => ?_)
        have hP := ft_cast hP (ft_R_a hn1)
        have hD := ft_castD hD (ft_R_a hn1)
        have hP : va_P dC vwCl (ft_WR ad k Z q pm ((s_X3_readWord o g).2) (ft_ga (ft_gc g n1 j_1) n1 (tn 0) 1)) H := hP
        have hD : va_D (ft_A 292 ad) (ft_WR ad k Z q pm ((s_X3_readWord o g).2) (ft_ga (ft_gc g n1 j_1) n1 (tn 0) 1)) := hD
        refine lv_iconst (v := 1) hx hb dX3_readStep_43 (by decide) ?_
        exact W.zret (v := 1) hx hb hr (rfl) (fun t ht hW => ⟨⟨1, ((s_X3_readWord o g).2, ft_ga (ft_gc g n1 j_1) n1 (tn 0) 1), rfl, hsp, ft_heap ht hP⟩, hS.F ht⟩) hS.2.2 dX3_readStep_44

theorem lt_readWord_L {o : Nat → Int32} {g : ft_G} {j : Nat} (K : Int32 → Int32 → Option Nat × (Nat → Int32)) (hK : ∀ a b, (K a b).1 = some j → j < 9) : ∀ (n : Nat) (a b : Int32), (s_X3_readWord_L4 o g K n a b).1 = some j → j < 9 := by
  intro n
  induction n with
  | zero => intro a b h; rw [s_X3_readWord_L4] at h; exact hK _ _ h
  | succ n ih =>
    intro a b h
    rw [s_X3_readWord_L4] at h
    split at h
    · exact hK _ _ h
    · rename_i h9
      split at h
      · have h : tn b = j := Option.some.inj h
        have h1 : tn b = b.toInt.toNat := rfl
        rw [Int32.le_iff_toInt_le] at h9
        have h2 : (9 : Int32).toInt = 9 := rfl
        omega
      · exact ih _ _ h
theorem lt_readWord {o : Nat → Int32} {g : ft_G} {j : Nat} (h : (s_X3_readWord o g).1 = some j) : j < 9 := by
  unfold s_X3_readWord at h
  exact lt_readWord_L _ (fun _ _ h => by cases h) _ _ _ h
theorem xx_readStep_L {o : Nat → Int32} {g : ft_G} {n1 j : Nat} (K : Int32 → (Nat → Int32) → ft_G → Int32 × ((Nat → Int32) × ft_G)) (I : (Nat → Int32) → ft_G → Prop) (hI : ∀ o' g' x, I o' g' → I (s_X3_readArgument o' g' x).2 g') (hJ : ∀ o' g' m i v, I o' g' → I o' (ft_ga g' m i v)) (hK : ∀ a o' g', I o' g' → I (K a o' g').2.1 (K a o' g').2.2) : ∀ (n : Nat) (a : Int32) (o' : Nat → Int32) (g' : ft_G), I o' g' → I (s_X3_readStep_L55 o g n1 j K n a o' g').2.1 (s_X3_readStep_L55 o g n1 j K n a o' g').2.2 := by
  intro n
  induction n with
  | zero => intro a o' g' h; rw [s_X3_readStep_L55]; exact hK a o' g' h
  | succ n ih =>
    intro a o' g' h
    rw [s_X3_readStep_L55]
    repeat' split
    all_goals first
      | exact hK _ _ _ h
      | exact hI _ _ _ h
      | exact ih _ _ _ (hJ _ _ _ _ _ (hI _ _ _ h))
theorem xx_readStep {o : Nat → Int32} {g : ft_G} {n1 : Nat} (I : (Nat → Int32) → ft_G → Prop) (hW : ∀ o' g', I o' g' → I (s_X3_readWord o' g').2 g') (hI : ∀ o' g' x, I o' g' → I (s_X3_readArgument o' g' x).2 g') (hJ : ∀ o' g' m i v, I o' g' → I o' (ft_ga g' m i v)) (hC : ∀ o' g' m c, c < 9 → I o' g' → I o' (ft_gc g' m c)) (h : I o g) : I (s_X3_readStep o g n1).2.1 (s_X3_readStep o g n1).2.2 := by
  unfold s_X3_readStep
  cases hw : (s_X3_readWord o g).1 with
  | none => exact hW _ _ h
  | some j =>
    rw [ft_op_s]
    repeat' split
    all_goals first
      | exact hJ _ _ _ _ _ (hC _ _ _ _ (lt_readWord hw) (hW _ _ h))
      | exact xx_readStep_L _ I hI hJ (fun _ _ _ h => h) _ _ _ _ (hC _ _ _ _ (lt_readWord hw) (hW _ _ h))
theorem ox_readStep {o : Nat → Int32} {g : ft_G} {n1 i : Nat} (hi : i ≠ 5) : (s_X3_readStep o g n1).2.1 i = o i :=
  xx_readStep (I := fun o' _ => o' i = o i) (fun _ _ h => (ox_readWord hi).trans h) (fun _ _ _ h => (ox_readArgument hi).trans h) (fun _ _ _ _ _ h => h) (fun _ _ _ _ _ h => h) rfl
theorem gx_readStep {o : Nat → Int32} {g : ft_G} {n1 : Nat} : (s_X3_readStep o g n1).2.2.1 = g.1 ∧ (s_X3_readStep o g n1).2.2.2.1 = g.2.1 :=
  xx_readStep (I := fun _ g' => g'.1 = g.1 ∧ g'.2.1 = g.2.1) (fun _ _ h => h) (fun _ _ _ h => h) (fun _ _ _ _ _ h => h) (fun _ _ _ _ _ h => h) ⟨rfl, rfl⟩
theorem g9_readStep {o : Nat → Int32} {g : ft_G} {n1 : Nat} (h : ∀ n, n < 15 → g.2.2.1 n < 9) : ∀ n, n < 15 → (s_X3_readStep o g n1).2.2.2.2.1 n < 9 :=
  xx_readStep (I := fun _ g' => ∀ n, n < 15 → g'.2.2.1 n < 9) (fun _ _ h => h) (fun _ _ _ h => h) (fun _ _ _ _ _ h => h) (fun o' g' m c hc h n hn => by
    show va_up g'.2.2.1 m c n < 9
    unfold va_up
    split
    · exact hc
    · exact h n hn) h

def s_X3_read_L10 (o : Nat → Int32) (g : ft_G)  (K : (Nat → Int32) → (ft_G) → (Int32 × ((Nat → Int32) × ft_G))) : Nat → (Nat → Int32) → (ft_G) → (Int32 × ((Nat → Int32) × ft_G))
  | 0, o_10, g_10 => K o_10 g_10
  | n + 1, o_10, g_10 => if 15 ≤ (o_10 4) then (K o_10 g_10) else (if ((s_X3_readStep o_10 g_10 (tn (o_10 4))).1) = 0 then ((0, ((s_X3_readStep o_10 g_10 (tn (o_10 4))).2.1, (s_X3_readStep o_10 g_10 (tn (o_10 4))).2.2))) else (if ((va_up ((s_X3_readStep o_10 g_10 (tn (o_10 4))).2.1) 4 ((((s_X3_readStep o_10 g_10 (tn (o_10 4))).2.1) 4) + 1)) 5) < (s_J4_length_8abf5 ((va_up ((s_X3_readStep o_10 g_10 (tn (o_10 4))).2.1) 4 ((((s_X3_readStep o_10 g_10 (tn (o_10 4))).2.1) 4) + 1)) 8, (va_up ((s_X3_readStep o_10 g_10 (tn (o_10 4))).2.1) 4 ((((s_X3_readStep o_10 g_10 (tn (o_10 4))).2.1) 4) + 1)) 6, ((s_X3_readStep o_10 g_10 (tn (o_10 4))).2.2).1.1, ((s_X3_readStep o_10 g_10 (tn (o_10 4))).2.2).1.2)) then (if ((s_X3_readSign (va_up ((s_X3_readStep o_10 g_10 (tn (o_10 4))).2.1) 4 ((((s_X3_readStep o_10 g_10 (tn (o_10 4))).2.1) 4) + 1)) ((s_X3_readStep o_10 g_10 (tn (o_10 4))).2.2) 59).1) = 0 then ((0, ((s_X3_readSign (va_up ((s_X3_readStep o_10 g_10 (tn (o_10 4))).2.1) 4 ((((s_X3_readStep o_10 g_10 (tn (o_10 4))).2.1) 4) + 1)) ((s_X3_readStep o_10 g_10 (tn (o_10 4))).2.2) 59).2, (s_X3_readStep o_10 g_10 (tn (o_10 4))).2.2))) else (s_X3_read_L10 o g K n ((s_X3_readSign (va_up ((s_X3_readStep o_10 g_10 (tn (o_10 4))).2.1) 4 ((((s_X3_readStep o_10 g_10 (tn (o_10 4))).2.1) 4) + 1)) ((s_X3_readStep o_10 g_10 (tn (o_10 4))).2.2) 59).2) ((s_X3_readStep o_10 g_10 (tn (o_10 4))).2.2))) else ((1, (va_up ((s_X3_readStep o_10 g_10 (tn (o_10 4))).2.1) 4 ((((s_X3_readStep o_10 g_10 (tn (o_10 4))).2.1) 4) + 1), (s_X3_readStep o_10 g_10 (tn (o_10 4))).2.2)))))
def s_X3_read (o : Nat → Int32) (g : ft_G)  : Int32 × ((Nat → Int32) × ft_G) := s_X3_read_L10 o g (fun o_10 g_10 => (0, (o_10, g_10))) (tn 15 + 1) (va_up (va_up o 5 0) 4 0) g
set_option maxHeartbeats 4000000 in
set_option maxRecDepth 100000 in
theorem c_X3_read (l : Launch) (dC : va_G) (Z : Nat → Nat → Nat) (ad : Nat → Nat) (k : Nat → ClassId) (q : Nat → Nat → Int32) (pm : Nat → Nat) (o : Nat → Int32) (g : ft_G)  (hc1 : o 6 ≤ nI g.1.1) (hc2 : g.1.1 < 2 ^ 31) : Met l yX3_read wsX3_read ({ frames := 8, cells := 0, slots := 0, locals := 182 }) (ft_Pf dC k Z (ft_A 292 ad) [.ref (ad 256)] (ft_WR ad k Z q pm o g)) (va_Qi (fun (z : Int32) (u : ((Nat → Int32) × ft_G)) => (z, u) = s_X3_read o g) (fun (u : ((Nat → Int32) × ft_G)) (t : State) => va_P dC vwCl (ft_WR ad k Z q pm u.1 u.2) t.heap) (ft_A 292 ad)) 0 0 (ft_A 292 ad) := by
  refine Met.ofW (cc := cX3_read) (maxL := 1) (ret := (some .boolean)) (by decide) rfl ?_
  intro p e s m args below meth c s₁ B hml hv
  obtain ⟨hargs, hP, hE, hD0⟩ := hv
  have hK := hE.1
  subst hargs
  have hx := B.exec
  have hb := B.bytes
  have hr := B.returns
  have hts := atoms_spec (ws := wsX3_read) B.pre
  have hown : s.vm.findClass RX3 = some m.cls := findClass_of_methodNamed B.named
  have hlocks := B.notSynchronized
  have hD := ft_D_self hD0
  have hS : va_S (ft_A 292 ad) s.heap s.heap [] := va_S.rf
  have hl := lv_entry ([.ref (ad 256)]) (n := 1) (Nat.le_of_ble_eq_true rfl)
  rw [lg_entry_eq]
  generalize (lg_sl ([.ref (ad 256)]) ++ List.replicate (1 - (lg_sl ([.ref (ad 256)])).length) Slot.unset).toArray = ls at hl ⊢
  have hl : lv_has ls 1 [(0, .ref (ad 256))] := hl
  have hsp := (s_X3_read.eq_1 o g ).symm
  refine lv_aload_n hx hb dX3_read_0 rfl (lv_at hl 0 rfl) ?_
  refine lv_iconst (v := 0) hx hb dX3_read_1 (by decide) ?_
  refine va_put (D := dC) (ci := 5) (v := .int (0)) (ty := .int) (C := RX3) (T := TX3) (N := 4) hx hb hts (by decide +kernel) tyX3 tyX3_ok nmX3 hown hK.1 hP hD hS (253 + 3) (ft_get' (by decide) rfl) rfl 3 (by decide) (hts (.fieldLink RX3 25 "FoodTruckRota$Script" "position" "I") (by decide +kernel)) (fun _ h9 => h9) rfl (by decide +kernel) rfl rfl (Nat.le_of_ble_eq_true rfl) dX3_read_2 (fun H locs hP hD hS => ?_)
  have hP := ft_cast hP (ft_R_p5)
  have hD := ft_castD hD (ft_R_p5)
  have hP : va_P dC vwCl (ft_WR ad k Z q pm (va_up o 5 0) g) H := hP
  have hD : va_D (ft_A 292 ad) (ft_WR ad k Z q pm (va_up o 5 0) g) := hD
  refine lv_aload_n hx hb dX3_read_5 rfl (lv_at hl 0 rfl) ?_
  refine lv_iconst (v := 0) hx hb dX3_read_6 (by decide) ?_
  refine va_put (D := dC) (ci := 5) (v := .int (0)) (ty := .int) (C := RX3) (T := TX3) (N := 4) hx hb hts (by decide +kernel) tyX3 tyX3_ok nmX3 hown hK.1 hP hD hS (253 + 3) (ft_get' (by decide) rfl) rfl 2 (by decide) (hts (.fieldLink RX3 29 "FoodTruckRota$Script" "stepTotal" "I") (by decide +kernel)) (fun _ h9 => h9) rfl (by decide +kernel) rfl rfl (Nat.le_of_ble_eq_true rfl) dX3_read_7 (fun H locs hP hD hS => ?_)
  have hP := ft_cast hP (ft_R_p4)
  have hD := ft_castD hD (ft_R_p4)
  have hP : va_P dC vwCl (ft_WR ad k Z q pm (va_up (va_up o 5 0) 4 0) g) H := hP
  have hD : va_D (ft_A 292 ad) (ft_WR ad k Z q pm (va_up (va_up o 5 0) 4 0) g) := hD
  have loop_10 : ∀ (K : (Nat → Int32) → (ft_G) → (Int32 × ((Nat → Int32) × ft_G))) (hKx : ∀ (o_10 : Nat → Int32) (g_10 : ft_G) (i_10 : Nat) (hi_10 : o_10 4 = nI i_10) (hm_10 : i_10 ≤ tn 15) (H : Heap) (locs : List Loc) (hP : va_P dC vwCl (ft_WR ad k Z q pm o_10 g_10) H) (hD : va_D (ft_A 292 ad) (ft_WR ad k Z q pm o_10 g_10)) (hS : va_S (ft_A 292 ad) s.heap H locs) (hc_10 : o_10 6 = o 6) (hg_10 : g_10.1 = g.1) (ls : Array Slot) (hl : lv_has ls 1 [(0, .ref (ad 256))]) (hsp : K o_10 g_10 = s_X3_read o g), W p l e (headSpec wsX3_read ({ frames := 8, cells := 0, slots := 0, locals := 182 })).room s m ([.ref (ad 256)] : List Value).toArray below meth c H locs 0 0 (MQ below (va_Qi (fun (z : Int32) (u : ((Nat → Int32) × ft_G)) => (z, u) = s_X3_read o g) (fun (u : ((Nat → Int32) × ft_G)) (t : State) => va_P dC vwCl (ft_WR ad k Z q pm u.1 u.2) t.heap) (ft_A 292 ad)) ([.ref (ad 256)] : List Value).toArray s 0 0 (ft_A 292 ad)) (F0 m 74 ls [])) (n_10 : Nat), ∀ (o_10 : Nat → Int32) (g_10 : ft_G) (i_10 : Nat) (hi_10 : o_10 4 = nI i_10) (hm_10 : i_10 ≤ tn 15) (hn_10 : tn 15 < n_10 + i_10) (H : Heap) (locs : List Loc) (hP : va_P dC vwCl (ft_WR ad k Z q pm o_10 g_10) H) (hD : va_D (ft_A 292 ad) (ft_WR ad k Z q pm o_10 g_10)) (hS : va_S (ft_A 292 ad) s.heap H locs) (hc_10 : o_10 6 = o 6) (hg_10 : g_10.1 = g.1) (ls : Array Slot) (hl : lv_has ls 1 [(0, .ref (ad 256))]) (hsp : s_X3_read_L10 o g K n_10 o_10 g_10 = s_X3_read o g), W p l e (headSpec wsX3_read ({ frames := 8, cells := 0, slots := 0, locals := 182 })).room s m ([.ref (ad 256)] : List Value).toArray below meth c H locs 0 0 (MQ below (va_Qi (fun (z : Int32) (u : ((Nat → Int32) × ft_G)) => (z, u) = s_X3_read o g) (fun (u : ((Nat → Int32) × ft_G)) (t : State) => va_P dC vwCl (ft_WR ad k Z q pm u.1 u.2) t.heap) (ft_A 292 ad)) ([.ref (ad 256)] : List Value).toArray s 0 0 (ft_A 292 ad)) (F0 m 10 ls []) := by
    intro K hKx n_10
    induction n_10 with
    | zero => intro o_10 g_10 i_10 hi_10 hm_10 hn_10; exact absurd hn_10 (by omega)
    | succ n ih_10 =>
      intro o_10 g_10 i_10 hi_10 hm_10 hn_10  H locs hP hD hS hc_10 hg_10 ls hl hsp
      rw [s_X3_read_L10] at hsp
      refine lv_aload_n hx hb dX3_read_10 rfl (lv_at hl 0 rfl) ?_
      refine va_get (D := dC) (ci := 5) (v := .int (o_10 4)) (C := RX3) (T := TX3) (N := 4) hx hb hts (by decide +kernel) hown hK.1 hP (253 + 3) (ft_get' (by decide) rfl) rfl 2 (by decide) (hts (.fieldLink RX3 29 "FoodTruckRota$Script" "stepTotal" "I") (by decide +kernel)) (fun _ h9 => h9) rfl dX3_read_11 ?_
      refine lv_bipush (v := 15) hx hb dX3_read_14 (by decide) ?_
      refine lv_icmp_ge (tgt := 74) hx hb dX3_read_16 (by decide) (fun c_16 => ?_) (fun c_16 => ?_)
      · replace hsp := (if_pos c_16).symm.trans hsp
        exact hKx o_10 g_10 i_10 hi_10 hm_10 _ _ hP hD hS hc_10 hg_10 ls (lv_sub hl [0] rfl) hsp
      · replace hsp := (if_neg c_16).symm.trans hsp
        have hlt_10 := ft_step hi_10 hm_10 c_16
        refine lv_aload_n hx hb dX3_read_19 rfl (lv_at hl 0 rfl) ?_
        refine lv_aload_n hx hb dX3_read_20 rfl (lv_at hl 0 rfl) ?_
        refine va_get (D := dC) (ci := 5) (v := .ref (ad 257)) (C := RX3) (T := TX3) (N := 4) hx hb hts (by decide +kernel) hown hK.1 hP (253 + 3) (ft_get' (by decide) rfl) rfl 1 (by decide) (hts (.fieldLink RX3 20 "FoodTruckRota$Script" "steps" "[LFoodTruckRota$Step;") (by decide +kernel)) (fun _ h9 => h9) rfl dX3_read_21 ?_
        refine lv_aload_n hx hb dX3_read_24 rfl (lv_at hl 0 rfl) ?_
        refine va_get (D := dC) (ci := 5) (v := .int (o_10 4)) (C := RX3) (T := TX3) (N := 4) hx hb hts (by decide +kernel) hown hK.1 hP (253 + 3) (ft_get' (by decide) rfl) rfl 2 (by decide) (hts (.fieldLink RX3 29 "FoodTruckRota$Script" "stepTotal" "I") (by decide +kernel)) (fun _ h9 => h9) rfl dX3_read_25 ?_
        have h_28 : vp_in (o_10 4) 15 := by exact ft_vin hi_10 hlt_10
        refine va_aldq (C := RX5) hx hb hK.1 hP (253 + 4) 3 (ft_get' (by decide) rfl) rfl h_28 dX3_read_28 ?_
        refine W.eq (g2 := F0 m 29 ls [.ref (ad (262 + 2 * (tn (o_10 4)))), .ref (ad 256)]) rfl ?_
        refine va_calli (va_runV (As := [.ref (ad (262 + 2 * (tn (o_10 4))))]) (rest := []) ⟨hx, hb, hml, hown, hts⟩ (c_X3_readStep l dC Z ad k q pm o_10 g_10 (tn (o_10 4)) (ft_tn h_28) (by rw [hc_10, hg_10]; exact hc1) (by rw [hg_10]; exact hc2)) (cwV 1 hts gX3_read_X3_readStep rfl rfl rfl (by decide +kernel) ⟨Nat.le_of_ble_eq_true rfl, Nat.le_of_ble_eq_true rfl⟩) (ft_preVh hE hS (fun _ h => h) hP hD (ci := 5) (q0 := (253 + 3)) rfl (ft_get' (by decide) rfl)) rfl rfl hl.1 rfl (lv_room (Nat.le_of_ble_eq_true rfl)) dX3_read_29 ⟨Nat.le_of_ble_eq_true rfl, Nat.le_of_ble_eq_true rfl⟩) hS (fun q _ h => h) (fun q h => h) (fun z u t H1 locs ht hvm hw hB hz1 hk1 hS => ?_)
        obtain ⟨rfl, rfl⟩ : z = (s_X3_readStep o_10 g_10 (tn (o_10 4))).1 ∧ u = (s_X3_readStep o_10 g_10 (tn (o_10 4))).2 := ⟨congrArg Prod.fst hw, congrArg Prod.snd hw⟩
        rw [ht] at hB
        have hP : va_P dC vwCl (ft_WR ad k Z q pm ((s_X3_readStep o_10 g_10 (tn (o_10 4))).2.1) ((s_X3_readStep o_10 g_10 (tn (o_10 4))).2.2)) H1 := hB
        have hD : va_D (ft_A 292 ad) (ft_WR ad k Z q pm ((s_X3_readStep o_10 g_10 (tn (o_10 4))).2.1) ((s_X3_readStep o_10 g_10 (tn (o_10 4))).2.2)) := ft_D_va hD _
        generalize H1 = H at hP hS ⊢
        refine lv_if_ne (tgt := 37) hx hb dX3_read_32 (by decide) (fun c_32 => ?_) (fun c_32 => ?_)
        · replace hsp := (if_neg c_32).symm.trans hsp
          refine lv_aload_n hx hb dX3_read_37 rfl (lv_at hl 0 rfl) ?_
          refine lv_dup hx hb dX3_read_38 rfl ?_
          refine va_get (D := dC) (ci := 5) (v := .int (((s_X3_readStep o_10 g_10 (tn (o_10 4))).2.1) 4)) (C := RX3) (T := TX3) (N := 4) hx hb hts (by decide +kernel) hown hK.1 hP (253 + 3) (ft_get' (by decide) rfl) rfl 2 (by decide) (hts (.fieldLink RX3 29 "FoodTruckRota$Script" "stepTotal" "I") (by decide +kernel)) (fun _ h9 => h9) rfl dX3_read_39 ?_
          refine lv_iconst (v := 1) hx hb dX3_read_42 (by decide) ?_
          refine lv_iadd hx hb dX3_read_43 ?_
          refine va_put (D := dC) (ci := 5) (v := .int ((((s_X3_readStep o_10 g_10 (tn (o_10 4))).2.1) 4) + 1)) (ty := .int) (C := RX3) (T := TX3) (N := 4) hx hb hts (by decide +kernel) tyX3 tyX3_ok nmX3 hown hK.1 hP hD hS (253 + 3) (ft_get' (by decide) rfl) rfl 2 (by decide) (hts (.fieldLink RX3 29 "FoodTruckRota$Script" "stepTotal" "I") (by decide +kernel)) (fun _ h9 => h9) rfl (by decide +kernel) rfl rfl (Nat.le_of_ble_eq_true rfl) dX3_read_44 (fun H locs hP hD hS => ?_)
          have hP := ft_cast hP (ft_R_p4)
          have hD := ft_castD hD (ft_R_p4)
          have hP : va_P dC vwCl (ft_WR ad k Z q pm (va_up ((s_X3_readStep o_10 g_10 (tn (o_10 4))).2.1) 4 ((((s_X3_readStep o_10 g_10 (tn (o_10 4))).2.1) 4) + 1)) ((s_X3_readStep o_10 g_10 (tn (o_10 4))).2.2)) H := hP
          have hD : va_D (ft_A 292 ad) (ft_WR ad k Z q pm (va_up ((s_X3_readStep o_10 g_10 (tn (o_10 4))).2.1) 4 ((((s_X3_readStep o_10 g_10 (tn (o_10 4))).2.1) 4) + 1)) ((s_X3_readStep o_10 g_10 (tn (o_10 4))).2.2)) := hD
          refine lv_aload_n hx hb dX3_read_47 rfl (lv_at hl 0 rfl) ?_
          refine va_get (D := dC) (ci := 5) (v := .int ((va_up ((s_X3_readStep o_10 g_10 (tn (o_10 4))).2.1) 4 ((((s_X3_readStep o_10 g_10 (tn (o_10 4))).2.1) 4) + 1)) 5)) (C := RX3) (T := TX3) (N := 4) hx hb hts (by decide +kernel) hown hK.1 hP (253 + 3) (ft_get' (by decide) rfl) rfl 3 (by decide) (hts (.fieldLink RX3 25 "FoodTruckRota$Script" "position" "I") (by decide +kernel)) (fun _ h9 => h9) rfl dX3_read_48 ?_
          refine lv_aload_n hx hb dX3_read_51 rfl (lv_at hl 0 rfl) ?_
          refine va_get (D := dC) (ci := 5) (v := .ref (ad 258)) (C := RX3) (T := TX3) (N := 4) hx hb hts (by decide +kernel) hown hK.1 hP (253 + 3) (ft_get' (by decide) rfl) rfl 0 (by decide) (hts (.fieldLink RX3 12 "FoodTruckRota$Script" "text" "Ljava/lang/StringBuilder;") (by decide +kernel)) (fun _ h9 => h9) rfl dX3_read_52 ?_
          refine vp_callSi (va_Run.run (va_runV (As := []) (rest := [.int ((va_up ((s_X3_readStep o_10 g_10 (tn (o_10 4))).2.1) 4 ((((s_X3_readStep o_10 g_10 (tn (o_10 4))).2.1) 4) + 1)) 5)]) ⟨hx, hb, hml, hown, hts⟩ (c_J4_length_8abf5 l dC (fun j => ad (258 + j)) k ((va_up ((s_X3_readStep o_10 g_10 (tn (o_10 4))).2.1) 4 ((((s_X3_readStep o_10 g_10 (tn (o_10 4))).2.1) 4) + 1)) 8, (va_up ((s_X3_readStep o_10 g_10 (tn (o_10 4))).2.1) 4 ((((s_X3_readStep o_10 g_10 (tn (o_10 4))).2.1) 4) + 1)) 6, ((s_X3_readStep o_10 g_10 (tn (o_10 4))).2.2).1.1, ((s_X3_readStep o_10 g_10 (tn (o_10 4))).2.2).1.2)) (cwV 0 hts gX3_read_J4_length_8abf5 rfl rfl rfl (by decide +kernel) ⟨Nat.le_of_ble_eq_true rfl, Nat.le_of_ble_eq_true rfl⟩) (ft_preVc hK (ft_R_B1 hP) (ci := 1) rfl (ft_get' (by decide) rfl)) rfl rfl hl.1 rfl (lv_room (Nat.le_of_ble_eq_true rfl)) dX3_read_55 ⟨Nat.le_of_ble_eq_true rfl, Nat.le_of_ble_eq_true rfl⟩)) (fun z hz => ?_)
          subst hz
          refine lv_icmp_lt (tgt := 63) hx hb dX3_read_58 (by decide) (fun c_58 => ?_) (fun c_58 => ?_)
          · replace hsp := (if_pos c_58).symm.trans hsp
            refine lv_aload_n hx hb dX3_read_63 rfl (lv_at hl 0 rfl) ?_
            refine lv_bipush (v := 59) hx hb dX3_read_64 (by decide) ?_
            refine va_calli (va_runV (As := [.int (59)]) (rest := []) ⟨hx, hb, hml, hown, hts⟩ (c_X3_readSign l dC Z ad k q pm (va_up ((s_X3_readStep o_10 g_10 (tn (o_10 4))).2.1) 4 ((((s_X3_readStep o_10 g_10 (tn (o_10 4))).2.1) 4) + 1)) ((s_X3_readStep o_10 g_10 (tn (o_10 4))).2.2) 59  (by rw [va_up_ne _ _ (by decide), ox_readStep (by decide), hc_10, (gx_readStep).1, hg_10]; exact hc1) (by rw [(gx_readStep).1, hg_10]; exact hc2)) (cwV 1 hts gX3_read_X3_readSign rfl rfl rfl (by decide +kernel) ⟨Nat.le_of_ble_eq_true rfl, Nat.le_of_ble_eq_true rfl⟩) (ft_preVh hE hS (fun _ h => h) hP hD (ci := 5) (q0 := (253 + 3)) rfl (ft_get' (by decide) rfl)) rfl rfl hl.1 rfl (lv_room (Nat.le_of_ble_eq_true rfl)) dX3_read_66 ⟨Nat.le_of_ble_eq_true rfl, Nat.le_of_ble_eq_true rfl⟩) hS (fun q _ h => h) (fun q h => h) (fun z u t H1 locs ht hvm hw hB hz1 hk1 hS => ?_)
            obtain ⟨rfl, rfl⟩ : z = (s_X3_readSign (va_up ((s_X3_readStep o_10 g_10 (tn (o_10 4))).2.1) 4 ((((s_X3_readStep o_10 g_10 (tn (o_10 4))).2.1) 4) + 1)) ((s_X3_readStep o_10 g_10 (tn (o_10 4))).2.2) 59).1 ∧ u = (s_X3_readSign (va_up ((s_X3_readStep o_10 g_10 (tn (o_10 4))).2.1) 4 ((((s_X3_readStep o_10 g_10 (tn (o_10 4))).2.1) 4) + 1)) ((s_X3_readStep o_10 g_10 (tn (o_10 4))).2.2) 59).2 := ⟨congrArg Prod.fst hw, congrArg Prod.snd hw⟩
            rw [ht] at hB
            have hP : va_P dC vwCl (ft_WR ad k Z q pm ((s_X3_readSign (va_up ((s_X3_readStep o_10 g_10 (tn (o_10 4))).2.1) 4 ((((s_X3_readStep o_10 g_10 (tn (o_10 4))).2.1) 4) + 1)) ((s_X3_readStep o_10 g_10 (tn (o_10 4))).2.2) 59).2) ((s_X3_readStep o_10 g_10 (tn (o_10 4))).2.2)) H1 := hB
            have hD : va_D (ft_A 292 ad) (ft_WR ad k Z q pm ((s_X3_readSign (va_up ((s_X3_readStep o_10 g_10 (tn (o_10 4))).2.1) 4 ((((s_X3_readStep o_10 g_10 (tn (o_10 4))).2.1) 4) + 1)) ((s_X3_readStep o_10 g_10 (tn (o_10 4))).2.2) 59).2) ((s_X3_readStep o_10 g_10 (tn (o_10 4))).2.2)) := ft_D_va hD _
            generalize H1 = H at hP hS ⊢
            refine lv_if_ne (tgt := 10) hx hb dX3_read_69 (by decide) (fun c_69 => ?_) (fun c_69 => ?_)
            · replace hsp := (if_neg c_69).symm.trans hsp
              exact ih_10 ((s_X3_readSign (va_up ((s_X3_readStep o_10 g_10 (tn (o_10 4))).2.1) 4 ((((s_X3_readStep o_10 g_10 (tn (o_10 4))).2.1) 4) + 1)) ((s_X3_readStep o_10 g_10 (tn (o_10 4))).2.2) 59).2) ((s_X3_readStep o_10 g_10 (tn (o_10 4))).2.2) (i_10 + 1) (by rw [ox_readSign (by decide), va_up_self, ox_readStep (by decide), hi_10, nI_1]) hlt_10 (by omega)  _ _ hP hD hS (by rw [ox_readSign (by decide), va_up_ne _ _ (by decide), ox_readStep (by decide)]; exact hc_10) (by rw [(gx_readStep).1]; exact hg_10) ls (lv_sub hl [0] rfl) hsp
            · replace hsp := (if_pos c_69).symm.trans hsp
              refine lv_iconst (v := 0) hx hb dX3_read_72 (by decide) ?_
              exact W.zret (v := 0) hx hb hr (rfl) (fun t ht hW => ⟨⟨0, ((s_X3_readSign (va_up ((s_X3_readStep o_10 g_10 (tn (o_10 4))).2.1) 4 ((((s_X3_readStep o_10 g_10 (tn (o_10 4))).2.1) 4) + 1)) ((s_X3_readStep o_10 g_10 (tn (o_10 4))).2.2) 59).2, (s_X3_readStep o_10 g_10 (tn (o_10 4))).2.2), rfl, hsp, ft_heap ht hP⟩, hS.F ht⟩) hS.2.2 dX3_read_73
          · replace hsp := (if_neg c_58).symm.trans hsp
            refine lv_iconst (v := 1) hx hb dX3_read_61 (by decide) ?_
            exact W.zret (v := 1) hx hb hr (rfl) (fun t ht hW => ⟨⟨1, (va_up ((s_X3_readStep o_10 g_10 (tn (o_10 4))).2.1) 4 ((((s_X3_readStep o_10 g_10 (tn (o_10 4))).2.1) 4) + 1), (s_X3_readStep o_10 g_10 (tn (o_10 4))).2.2), rfl, hsp, ft_heap ht hP⟩, hS.F ht⟩) hS.2.2 dX3_read_62
        · replace hsp := (if_pos c_32).symm.trans hsp
          refine lv_iconst (v := 0) hx hb dX3_read_35 (by decide) ?_
          exact W.zret (v := 0) hx hb hr (rfl) (fun t ht hW => ⟨⟨0, ((s_X3_readStep o_10 g_10 (tn (o_10 4))).2.1, (s_X3_readStep o_10 g_10 (tn (o_10 4))).2.2), rfl, hsp, ft_heap ht hP⟩, hS.F ht⟩) hS.2.2 dX3_read_36
  refine loop_10 _ (fun o_10 g_10 i_10 hi_10 hm_10  H locs hP hD hS hc_10 hg_10 ls hl hsp => ?_) (tn 15 + 1) (va_up (va_up o 5 0) 4 0) g 0 (by rw [va_up_self]; rfl) (by omega) (by omega)  _ _ hP hD hS (by rw [va_up_ne _ _ (by decide), va_up_ne _ _ (by decide)]) rfl ls (lv_sub hl [0] rfl) hsp
  refine lv_iconst (v := 0) hx hb dX3_read_74 (by decide) ?_
  exact W.zret (v := 0) hx hb hr (rfl) (fun t ht hW => ⟨⟨0, (o_10, g_10), rfl, hsp, ft_heap ht hP⟩, hS.F ht⟩) hS.2.2 dX3_read_75

theorem xx_read_L {o : Nat → Int32} {g : ft_G} (K : (Nat → Int32) → ft_G → Int32 × ((Nat → Int32) × ft_G)) (I : (Nat → Int32) → ft_G → Prop) (hS : ∀ o' g' n, n < 15 → I o' g' → I (s_X3_readStep o' g' n).2.1 (s_X3_readStep o' g' n).2.2) (hN : ∀ o' g' v, I o' g' → I (va_up o' 4 v) g') (hR : ∀ o' g' x, I o' g' → I (s_X3_readSign o' g' x).2 g') (hK : ∀ o' g', I o' g' → I (K o' g').2.1 (K o' g').2.2) : ∀ (n : Nat) (o' : Nat → Int32) (g' : ft_G), I o' g' → I (s_X3_read_L10 o g K n o' g').2.1 (s_X3_read_L10 o g K n o' g').2.2 := by
  intro n
  induction n with
  | zero => intro o' g' h; rw [s_X3_read_L10]; exact hK _ _ h
  | succ n ih =>
    intro o' g' h
    rw [s_X3_read_L10]
    split
    · exact hK _ _ h
    · rename_i h15
      have h15 : tn (o' 4) < 15 := by
        have h1 : tn (o' 4) = (o' 4).toInt.toNat := rfl
        rw [Int32.le_iff_toInt_le] at h15
        have h2 : (15 : Int32).toInt = 15 := rfl
        omega
      have hs := hS _ _ _ h15 h
      split
      · exact hs
      · split
        · split
          · exact hR _ _ _ (hN _ _ _ hs)
          · exact ih _ _ (hR _ _ _ (hN _ _ _ hs))
        · exact hN _ _ _ hs
theorem xx_read {o : Nat → Int32} {g : ft_G} (I : (Nat → Int32) → ft_G → Prop) (hS : ∀ o' g' n, n < 15 → I o' g' → I (s_X3_readStep o' g' n).2.1 (s_X3_readStep o' g' n).2.2) (hN : ∀ o' g' v, I o' g' → I (va_up o' 4 v) g') (h5 : ∀ o' g' v, I o' g' → I (va_up o' 5 v) g') (hR : ∀ o' g' x, I o' g' → I (s_X3_readSign o' g' x).2 g') (h : I o g) : I (s_X3_read o g).2.1 (s_X3_read o g).2.2 := by
  unfold s_X3_read
  exact xx_read_L _ I hS hN hR (fun _ _ h => h) _ _ _ (hN _ _ _ (h5 _ _ _ h))
theorem ox_read {o : Nat → Int32} {g : ft_G} {i : Nat} (h4 : i ≠ 4) (h5 : i ≠ 5) : (s_X3_read o g).2.1 i = o i :=
  xx_read (I := fun o' _ => o' i = o i) (fun _ _ _ _ h => (ox_readStep h5).trans h) (fun _ _ _ h => (va_up_ne _ _ h4).trans h) (fun _ _ _ h => (va_up_ne _ _ h5).trans h) (fun _ _ _ h => (ox_readSign h5).trans h) rfl
theorem gx_read {o : Nat → Int32} {g : ft_G} : (s_X3_read o g).2.2.1 = g.1 ∧ (s_X3_read o g).2.2.2.1 = g.2.1 :=
  xx_read (I := fun _ g' => g'.1 = g.1 ∧ g'.2.1 = g.2.1) (fun _ _ _ _ h => ⟨gx_readStep.1.trans h.1, gx_readStep.2.trans h.2⟩) (fun _ _ _ h => h) (fun _ _ _ h => h) (fun _ _ _ h => h) ⟨rfl, rfl⟩
theorem g9_read {o : Nat → Int32} {g : ft_G} (h : ∀ n, n < 15 → g.2.2.1 n < 9) : ∀ n, n < 15 → (s_X3_read o g).2.2.2.2.1 n < 9 :=
  xx_read (I := fun _ g' => ∀ n, n < 15 → g'.2.2.1 n < 9) (fun _ _ _ _ h => g9_readStep h) (fun _ _ _ h => h) (fun _ _ _ h => h) (fun _ _ _ h => h) h
