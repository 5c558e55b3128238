theorem ft_sdg1 {x : Nat} (h : x < 10) : sb_dg x ≤ 1 := by unfold sb_dg; rw [if_pos h]; exact Nat.le_refl _
theorem ft_sdg3 {x : Nat} (h : x < 1000) : sb_dg x ≤ 3 := by unfold sb_dg; split <;> (try split) <;> (try split) <;> omega
theorem ft_lat {x : Int32} (h : x ≤ 126) : ¬ 255 < x := by
  rw [Int32.lt_iff_toInt_lt]
  rw [Int32.le_iff_toInt_le] at h
  have e1 : (126 : Int32).toInt = 126 := rfl
  have e2 : (255 : Int32).toInt = 255 := rfl
  omega
theorem ft_in_nn {x : Int32} {n : Nat} (h : vp_in x n) : ¬ x < 0 := fun z => h (Or.inl z)

def s_X7_renderDay_L14 (q : Nat → Nat → Int32) (o : Nat → Int32) (g : ft_G) (x1 : Int32) (K : Int32 → (Nat → Int32) → ft_G → (Except String Int32 × ((Nat → Int32) × ft_G))) : Nat → Int32 → (Nat → Int32) → ft_G → (Except String Int32 × ((Nat → Int32) × ft_G))
  | 0, y2_14, o_14, g_14 => K y2_14 o_14 g_14
  | n + 1, y2_14, o_14, g_14 => if 5 ≤ y2_14 then (K y2_14 o_14 g_14) else (if (s_X4_holderOf (q 0) y2_14 x1) = (-1) then (s_X7_renderDay_L14 q o g x1 K n (y2_14 + 1) ((ft_oc261 o_14 g_14 45).1) ((ft_oc261 o_14 g_14 45).2)) else (s_X7_renderDay_L14 q o g x1 K n (y2_14 + 1) ((ft_oi261 o_14 g_14 (s_X4_holderOf (q 0) y2_14 x1)).1) ((ft_oi261 o_14 g_14 (s_X4_holderOf (q 0) y2_14 x1)).2)))
def s_X7_renderDay (q : Nat → Nat → Int32) (o : Nat → Int32) (g : ft_G) (x1 : Int32) : Except String Int32 × ((Nat → Int32) × ft_G) := ft_xs (s_X7_needWeekday x1) (o, g) (fun _ => s_X7_renderDay_L14 q o g x1 (fun y2_14 o_14 g_14 => (.ok (s_J4_length_8abf5 (o_14 9, o_14 7, g_14.2.1.1, g_14.2.1.2)), (o_14, g_14))) (tn 5 + 1) 0 ((ft_oz261 o g).1) ((ft_oz261 o g).2))
set_option maxHeartbeats 4000000 in
set_option maxRecDepth 100000 in
theorem c_X7_renderDay (l : Launch) (hl0 : l.stackTraces = false) (dC : va_G) (Z : Nat → Nat → Nat) (ad : Nat → Nat) (k : Nat → ClassId) (q : Nat → Nat → Int32) (pm : Nat → Nat) (o : Nat → Int32) (g : ft_G) (x1 : Int32) (sz : Nat) (hpm : ∀ i, i < 8 → pm i < 8) (hok : ft_ok261 o g 70) (hH : ∀ y : Int32, s_X4_holderOf (q 0) y x1 = -1 ∨ (¬ s_X4_holderOf (q 0) y x1 < 0 ∧ tn (s_X4_holderOf (q 0) y x1) < 10)) : vx_Met l yX7_renderDay wsX7_renderDay ({ frames := 7, cells := 6, slots := 756, locals := 224 }) (ft_Ph dC k Z (ft_An 292 ad sz) [.ref (ad 253), .int x1] (ft_WR ad k Z q pm o g) sz) (va_Qi (fun (z : Int32) (u : Nat × ((Nat → Int32) × ft_G)) => (.ok z, u.2) = s_X7_renderDay q o g x1) (fun (u : Nat × ((Nat → Int32) × ft_G)) (t : State) => (u.1 = ad 261 ∨ sz ≤ u.1) ∧ va_P dC vwCl (ft_WR (va_up ad 261 u.1) k Z q pm u.2.1 u.2.2) t.heap) (ft_An 292 ad sz)) (vx_X (fun (_ : Nat × ((Nat → Int32) × ft_G)) => True) (fun (E : String) (u : Nat × ((Nat → Int32) × ft_G)) (t : State) => (.error E, u.2) = s_X7_renderDay q o g x1 ∧ (u.1 = ad 261 ∨ sz ≤ u.1) ∧ va_P dC vwCl (ft_WR (va_up ad 261 u.1) k Z q pm u.2.1 u.2.2) t.heap) (ft_An 292 ad sz)) 6 756 (ft_An 292 ad sz) := by
  refine vx_ofW (cc := cX7_renderDay) (maxL := 4) (ret := (some .int)) (by decide) rfl ?_
  intro p e s m args below meth c s₁ B hml hnt hv
  obtain ⟨hargs, hP0, hE, hD0, hsz⟩ := hv
  have hK := hE.1
  subst hargs
  have hx := B.exec
  have hb := B.bytes
  have hr := B.returns
  have hts := atoms_spec (ws := wsX7_renderDay) B.pre
  have hown : s.vm.findClass RX7 = some m.cls := findClass_of_methodNamed B.named
  have hlocks := B.notSynchronized
  have hD1 : va_D (ft_An 292 ad sz) (ft_WR ad k Z q pm o g) := (ft_D_self hD0).weaken (fun _ _ _ h => Or.inl h)
  obtain ⟨b, hbb, hP, hD⟩ : ∃ b, (b = ad 261 ∨ sz ≤ b) ∧ va_P dC vwCl (ft_WR (va_up ad 261 b) k Z q pm o g) s.heap ∧ va_D (ft_An 292 ad sz) (ft_WR (va_up ad 261 b) k Z q pm o g) := ⟨ad 261, Or.inl rfl, by rw [ft_up_261]; exact hP0, by rw [ft_up_261]; exact hD1⟩
  have hS : va_S (ft_An 292 ad sz) s.heap s.heap [] := va_S.rf
  have hl := lv_entry ([.ref (ad 253), .int x1]) (n := 4) (Nat.le_of_ble_eq_true rfl)
  rw [lg_entry_eq]
  generalize (lg_sl ([.ref (ad 253), .int x1]) ++ List.replicate (4 - (lg_sl ([.ref (ad 253), .int x1])).length) Slot.unset).toArray = ls at hl ⊢
  have hl : lv_has ls 4 [(0, .ref (ad 253)), (1, .int (x1))] := hl
  have hsp := (s_X7_renderDay.eq_1 q o g x1).symm
  refine lv_iload_n hx hb dX7_renderDay_0 rfl (lv_at hl 1 rfl) ?_
  refine vx_callv (vx_runS (As := [.int (x1)]) (rest := []) ⟨hx, hb, hml, hown, hts⟩ (c_X7_needWeekday l hl0 dC Z (ft_An 292 ad sz) k x1) (va_cwS 1 hts gX7_renderDay_X7_needWeekday rfl rfl rfl (by decide +kernel) ⟨Nat.le_of_ble_eq_true rfl, Nat.le_of_ble_eq_true rfl⟩) (ft_preSo hE hS (fun _ h => h)) rfl rfl hl.1 rfl (lv_room (Nat.le_of_ble_eq_true rfl)) dX7_renderDay_1 ⟨Nat.le_of_ble_eq_true rfl, Nat.le_of_ble_eq_true rfl⟩) hS (fun _ _ h => h.elim) (fun _ h => h.elim) (fun _ _ h => h.elim) (fun E ce q9 u t H1 locs1 ht hvm hu hB hz1 hk1 hS1 hc1 hc2 hc3 => ?_) (fun u t H1 locs1 ht hvm hw hB hz1 hk1 hS1 => ?_)
  · exact vx_out (fun x hx9 => (hnt x hx9).elim) hlocks hc1 hc2 hc3 (fun t2 ht2 hv2 => ⟨(b, (o, g)), trivial, ⟨(ft_xs_err hB hsp).symm, hbb, ft_heap ht2 (ft_keep hP hk1)⟩, hS1.F ht2⟩) hS1.2.2 (by decide) (by decide)
  replace hsp := ft_xs_ok hw hsp
  have hP := ft_keep hP hk1
  have hw_1 := hw
  have hS := hS1
  clear hS1
  generalize H1 = H at hP hS ⊢
  refine lv_aload_n hx hb dX7_renderDay_4 rfl (lv_at hl 0 rfl) ?_
  refine va_get (D := dC) (ci := 9) (v := .ref (ad 260)) (C := RX7) (T := TX7) (N := 9) hx hb hts (by decide +kernel) hown hK.1 hP (253 + 0) (ft_get' (by decide) rfl) rfl 5 (by decide) (hts (.fieldLink RX7 39 "FoodTruckRota" "output" "Ljava/lang/StringBuilder;") (by decide +kernel)) (fun _ h9 => h9) rfl dX7_renderDay_5 ?_
  refine lv_iconst (v := 0) hx hb dX7_renderDay_8 (by decide) ?_
  have hcn := hok.cnt (by omega)
  refine va_callv (va_runV (As := [.int (0)]) (rest := []) ⟨hx, hb, hml, hown, hts⟩ (c_J4_setLength_d00df_0 l dC (fun j => (va_up ad 261 b) (260 + j)) k (o 9, o 7, g.2.1.1, g.2.1.2) 0 (tn (o 7)) rfl hcn.1 (by omega) (Nat.le_trans hcn.2.2.2 (by decide))) (cwV 1 hts gX7_renderDay_J4_setLength_d00df rfl rfl rfl (by decide +kernel) ⟨Nat.le_of_ble_eq_true rfl, Nat.le_of_ble_eq_true rfl⟩) (ft_preVd hK (ft_R_B hP) (ft_D_261 hD) (ci := 1) rfl (ft_get' (by decide) rfl)) rfl rfl hl.1 rfl (lv_room (Nat.le_of_ble_eq_true rfl)) dX7_renderDay_9 ⟨Nat.le_of_ble_eq_true rfl, Nat.le_of_ble_eq_true rfl⟩) hS (fun x _ h => ft_fA_261 hbb (Nat.le_trans hsz hS.1) x (Or.inl h)) (fun x h => ft_fA_261 hbb (Nat.le_trans hsz hS.1) x (Or.inl h)) (fun v_9 t H1 locs1 ht hvm hw hB hz1 hk1 hS1 => ?_)
  rw [ht] at hB
  rw [hw] at hB
  have hW := ft_same_261 hP hD (fun x hx9 => Or.inr (Nat.le_trans (Nat.le_trans hsz hS.1) hx9)) hpm hk1 hB
  clear hS
  have hS := hS1
  clear hS1
  obtain ⟨hP, hD⟩ := hW
  have hP : va_P dC vwCl (ft_WR (va_up ad 261 b) k Z q pm ((ft_oz261 o g).1) ((ft_oz261 o g).2)) H1 := hP
  have hD : va_D (ft_An 292 ad sz) (ft_WR (va_up ad 261 b) k Z q pm ((ft_oz261 o g).1) ((ft_oz261 o g).2)) := hD
  have hok : ft_ok261 ((ft_oz261 o g).1) ((ft_oz261 o g).2) (0) := hok.z
  generalize H1 = H at hP hS ⊢
  refine lv_iconst (v := 0) hx hb dX7_renderDay_12 (by decide) ?_
  refine lv_istore_n (lv' := [(2, .int (0)), (0, .ref (ad 253)), (1, .int (x1))]) hx hb dX7_renderDay_13 rfl hl (by decide) rfl (fun ls hl => ?_)
  have hbn_14 : tn 5 = 5 := rfl
  have loop_14 : ∀ (K : Int32 → (Nat → Int32) → ft_G → (Except String Int32 × ((Nat → Int32) × ft_G))) (hKx : ∀ (y2_14 : Int32) (i_14 : Nat) (hi_14 : y2_14 = nI i_14) (hm_14 : i_14 ≤ tn 5) (b_14 : Nat) (o_14 : Nat → Int32) (g_14 : ft_G) (H : Heap) (locs : List Loc) (hP : va_P dC vwCl (ft_WR (va_up ad 261 b_14) k Z q pm o_14 g_14) H) (hD : va_D (ft_An 292 ad sz) (ft_WR (va_up ad 261 b_14) k Z q pm o_14 g_14)) (hS : va_S (ft_An 292 ad sz) s.heap H locs) (hbb : b_14 = ad 261 ∨ sz ≤ b_14) (hok : ft_ok261 o_14 g_14 (0 + 1 * i_14)) (ls : Array Slot) (hl : lv_has ls 4 [(0, .ref (ad 253)), (1, .int (x1)), (2, .int (y2_14))]) (hsp : K y2_14 o_14 g_14 = s_X7_renderDay q o g x1), W p l e (headSpec wsX7_renderDay ({ frames := 7, cells := 6, slots := 756, locals := 224 })).room s m ([.ref (ad 253), .int x1] : List Value).toArray below meth c H locs (1 + 1 * i_14) (6 + 150 * i_14) (vx_MQ below (va_Qi (fun (z : Int32) (u : Nat × ((Nat → Int32) × ft_G)) => (.ok z, u.2) = s_X7_renderDay q o g x1) (fun (u : Nat × ((Nat → Int32) × ft_G)) (t : State) => (u.1 = ad 261 ∨ sz ≤ u.1) ∧ va_P dC vwCl (ft_WR (va_up ad 261 u.1) k Z q pm u.2.1 u.2.2) t.heap) (ft_An 292 ad sz)) (vx_X (fun (_ : Nat × ((Nat → Int32) × ft_G)) => True) (fun (E : String) (u : Nat × ((Nat → Int32) × ft_G)) (t : State) => (.error E, u.2) = s_X7_renderDay q o g x1 ∧ (u.1 = ad 261 ∨ sz ≤ u.1) ∧ va_P dC vwCl (ft_WR (va_up ad 261 u.1) k Z q pm u.2.1 u.2.2) t.heap) (ft_An 292 ad sz)) ([.ref (ad 253), .int x1] : List Value).toArray s 6 756 (ft_An 292 ad sz)) (F0 m 62 ls [])) (n_14 : Nat), ∀ (y2_14 : Int32) (i_14 : Nat) (hi_14 : y2_14 = nI i_14) (hm_14 : i_14 ≤ tn 5) (hn_14 : tn 5 < n_14 + i_14) (b_14 : Nat) (o_14 : Nat → Int32) (g_14 : ft_G) (H : Heap) (locs : List Loc) (hP : va_P dC vwCl (ft_WR (va_up ad 261 b_14) k Z q pm o_14 g_14) H) (hD : va_D (ft_An 292 ad sz) (ft_WR (va_up ad 261 b_14) k Z q pm o_14 g_14)) (hS : va_S (ft_An 292 ad sz) s.heap H locs) (hbb : b_14 = ad 261 ∨ sz ≤ b_14) (hok : ft_ok261 o_14 g_14 (0 + 1 * i_14)) (ls : Array Slot) (hl : lv_has ls 4 [(0, .ref (ad 253)), (1, .int (x1)), (2, .int (y2_14))]) (hsp : s_X7_renderDay_L14 q o g x1 K n_14 y2_14 o_14 g_14 = s_X7_renderDay q o g x1), W p l e (headSpec wsX7_renderDay ({ frames := 7, cells := 6, slots := 756, locals := 224 })).room s m ([.ref (ad 253), .int x1] : List Value).toArray below meth c H locs (1 + 1 * i_14) (6 + 150 * i_14) (vx_MQ below (va_Qi (fun (z : Int32) (u : Nat × ((Nat → Int32) × ft_G)) => (.ok z, u.2) = s_X7_renderDay q o g x1) (fun (u : Nat × ((Nat → Int32) × ft_G)) (t : State) => (u.1 = ad 261 ∨ sz ≤ u.1) ∧ va_P dC vwCl (ft_WR (va_up ad 261 u.1) k Z q pm u.2.1 u.2.2) t.heap) (ft_An 292 ad sz)) (vx_X (fun (_ : Nat × ((Nat → Int32) × ft_G)) => True) (fun (E : String) (u : Nat × ((Nat → Int32) × ft_G)) (t : State) => (.error E, u.2) = s_X7_renderDay q o g x1 ∧ (u.1 = ad 261 ∨ sz ≤ u.1) ∧ va_P dC vwCl (ft_WR (va_up ad 261 u.1) k Z q pm u.2.1 u.2.2) t.heap) (ft_An 292 ad sz)) ([.ref (ad 253), .int x1] : List Value).toArray s 6 756 (ft_An 292 ad sz)) (F0 m 14 ls []) := by
    intro K hKx n_14
    induction n_14 with
    | zero => intro y2_14 i_14 hi_14 hm_14 hn_14; exact absurd hn_14 (by omega)
    | succ n ih_14 =>
      intro y2_14 i_14 hi_14 hm_14 hn_14 b_14 o_14 g_14 H locs hP hD hS hbb hok ls hl hsp
      rw [s_X7_renderDay_L14] at hsp
      have hbn : tn 5 = 5 := rfl
      refine lv_iload_n hx hb dX7_renderDay_14 rfl (lv_at hl 2 rfl) ?_
      refine lv_iconst (v := 5) hx hb dX7_renderDay_15 (by decide) ?_
      refine lv_icmp_ge (tgt := 62) hx hb dX7_renderDay_16 (by decide) (fun c_16 => ?_) (fun c_16 => ?_)
      · replace hsp := (if_pos c_16).symm.trans hsp
        exact hKx y2_14 i_14 hi_14 hm_14 b_14 o_14 g_14 _ _ hP hD hS hbb hok ls (lv_sub hl [0, 1, 2] rfl) hsp
      · replace hsp := (if_neg c_16).symm.trans hsp
        have hlt_14 := ft_step hi_14 hm_14 c_16
        refine lv_aload_n hx hb dX7_renderDay_19 rfl (lv_at hl 0 rfl) ?_
        refine va_get (D := dC) (ci := 9) (v := .ref (ft_sq ad 0 0)) (C := RX7) (T := TX7) (N := 9) hx hb hts (by decide +kernel) hown hK.1 hP (253 + 0) (ft_get' (by decide) rfl) rfl 0 (by decide) (hts (.fieldLink RX7 12 "FoodTruckRota" "square" "LFoodTruckRota$Square;") (by decide +kernel)) (fun _ h9 => h9) rfl dX7_renderDay_20 ?_
        refine lv_iload_n hx hb dX7_renderDay_23 rfl (lv_at hl 2 rfl) ?_
        refine lv_iload_n hx hb dX7_renderDay_24 rfl (lv_at hl 1 rfl) ?_
        have hl5 : i_14 + 1 ≤ 5 := hlt_14
        refine vp_callSi (va_Run.run (va_runV (As := [.int (y2_14), .int (x1)]) (rest := []) ⟨hx, hb, hml, hown, hts⟩ (c_X4_holderOf l dC (ft_sq ad 0) k (q 0) y2_14 x1) (cwV 2 hts gX7_renderDay_X4_holderOf rfl rfl rfl (by decide +kernel) ⟨Nat.le_of_ble_eq_true rfl, Nat.le_of_ble_eq_true rfl⟩) (ft_preVc hK (ft_sqs_261 hP (s := 0) (by decide)) (ci := 6) rfl (ft_get' (by decide) rfl)) rfl rfl hl.1 rfl (lv_room (Nat.le_of_ble_eq_true rfl)) dX7_renderDay_25 ⟨(show 1 + 1 * i_14 + 0 ≤ 6 by omega), (show 6 + 150 * i_14 + 0 ≤ 756 by omega)⟩)) (fun z hz => ?_)
        subst hz
        refine lv_istore_n (lv' := [(3, .int ((s_X4_holderOf (q 0) y2_14 x1))), (0, .ref (ad 253)), (1, .int (x1)), (2, .int (y2_14))]) hx hb dX7_renderDay_28 rfl hl (by decide) rfl (fun ls hl => ?_)
        refine lv_iload_n hx hb dX7_renderDay_29 rfl (lv_at hl 0 rfl) ?_
        refine lv_iconst (v := (-1)) hx hb dX7_renderDay_30 (by decide) ?_
        refine lv_icmp_ne (tgt := 47) hx hb dX7_renderDay_31 (by decide) (fun c_31 => ?_) (fun c_31 => ?_)
        · replace hsp := (if_neg c_31).symm.trans hsp
          refine lv_aload_n hx hb dX7_renderDay_47 rfl (lv_at hl 1 rfl) ?_
          refine va_get (D := dC) (ci := 9) (v := .ref (ad 260)) (C := RX7) (T := TX7) (N := 9) hx hb hts (by decide +kernel) hown hK.1 hP (253 + 0) (ft_get' (by decide) rfl) rfl 5 (by decide) (hts (.fieldLink RX7 39 "FoodTruckRota" "output" "Ljava/lang/StringBuilder;") (by decide +kernel)) (fun _ h9 => h9) rfl dX7_renderDay_48 ?_
          refine lv_iload_n hx hb dX7_renderDay_51 rfl (lv_at hl 0 rfl) ?_
          have hl5 : i_14 + 1 ≤ 5 := hlt_14
          have hnn : ¬ (s_X4_holderOf (q 0) y2_14 x1) < 0 := ((hH y2_14).resolve_left c_31).1
          have hdg : sb_dg (tn (s_X4_holderOf (q 0) y2_14 x1)) ≤ 1 := (by unfold sb_dg; rw [if_pos ((hH y2_14).resolve_left c_31).2]; exact Nat.le_refl _)
          have hcn := hok.cnt (by omega)
          refine va_callr (va_runV (As := [.int ((s_X4_holderOf (q 0) y2_14 x1))]) (rest := []) ⟨hx, hb, hml, hown, hts⟩ (c_J4_append_bf812 l dC Z (fun j => (va_up ad 261 b_14) (260 + j)) k (o_14 9, o_14 7, g_14.2.1.1, g_14.2.1.2) (s_X4_holderOf (q 0) y2_14 x1) (tn (o_14 7)) H.size (tn (s_X4_holderOf (q 0) y2_14 x1)) hcn.1 (ft_nat0 hnn) (ft_tn31 _) (by omega) (Nat.le_trans hcn.2.2.2 (by decide)) (hok.gc (m := (tn (o_14 7)) + sb_dg (tn (s_X4_holderOf (q 0) y2_14 x1))) (by omega)) hok.2.2) (cwV 1 hts gX7_renderDay_J4_append_bf812 rfl rfl rfl (by decide +kernel) ⟨Nat.le_of_ble_eq_true rfl, Nat.le_of_ble_eq_true rfl⟩) (ft_preVh' hE hS (fun x h => ft_fA_261 hbb (Nat.le_trans hsz hS.1) x h) (ft_R_B hP) (ft_D_261 hD) (Nat.le_refl _) (ci := 1) rfl (ft_get' (by decide) rfl)) rfl rfl hl.1 rfl (lv_room (Nat.le_of_ble_eq_true rfl)) dX7_renderDay_52 ⟨(show 1 + 1 * i_14 + 1 ≤ 6 by omega), (show 6 + 150 * i_14 + 150 ≤ 756 by omega)⟩) hS (fun x _ h => ft_fA_261 hbb (Nat.le_trans hsz hS.1) x h) (fun x h => ft_fA_261 hbb (Nat.le_trans hsz hS.1) x h) (fun v_52 ra t H1 locs1 ht hvm hw hB hz1 hk1 hS1 => ?_)
          obtain ⟨hra, hv1, hB⟩ := hB
          have hra : ra = ad 260 := hra
          subst hra
          rw [ht] at hB
          have hW := ft_grow_261 hP hD (fun x hx9 => Or.inr (Nat.le_trans (Nat.le_trans hsz hS.1) hx9)) hpm hv1 hk1 hB
          rw [hw, ft_upp_261] at hW
          have hbb := ft_bb_261 hbb (Nat.le_trans hsz hS.1) hv1
          clear hS
          have hS := hS1
          clear hS1
          obtain ⟨hP, hD⟩ := hW
          have hP : va_P dC vwCl (ft_WR (va_up ad 261 v_52.1) k Z q pm ((ft_oi261 o_14 g_14 (s_X4_holderOf (q 0) y2_14 x1)).1) ((ft_oi261 o_14 g_14 (s_X4_holderOf (q 0) y2_14 x1)).2)) H1 := hP
          have hD : va_D (ft_An 292 ad sz) (ft_WR (va_up ad 261 v_52.1) k Z q pm ((ft_oi261 o_14 g_14 (s_X4_holderOf (q 0) y2_14 x1)).1) ((ft_oi261 o_14 g_14 (s_X4_holderOf (q 0) y2_14 x1)).2)) := hD
          have hok : ft_ok261 ((ft_oi261 o_14 g_14 (s_X4_holderOf (q 0) y2_14 x1)).1) ((ft_oi261 o_14 g_14 (s_X4_holderOf (q 0) y2_14 x1)).2) (0 + 1 * i_14 + 1) := hok.i (x := (s_X4_holderOf (q 0) y2_14 x1)) hdg (by omega)
          generalize H1 = H at hP hS ⊢
          refine W.widen (k := 1 + 1 * i_14 + 1) (n := 6 + 150 * i_14 + 150) (Nat.le_refl _) (Nat.le_refl _) ?_
          refine lv_pop hx hb dX7_renderDay_55 rfl ?_
          refine lv_iinc (v := y2_14 + 1) (lv' := [(2, .int (y2_14 + 1)), (3, .int ((s_X4_holderOf (q 0) y2_14 x1))), (0, .ref (ad 253)), (1, .int (x1))]) hx hb dX7_renderDay_56 hl (k := 3) rfl rfl (by decide) rfl (fun ls hl => ?_)
          refine lv_goto (tgt := 14) hx hb dX7_renderDay_59 (by decide) ?_
          refine W.widen (k := 1 + 1 * (i_14 + 1)) (n := 6 + 150 * (i_14 + 1)) (by omega) (by omega) ?_
          exact ih_14 (y2_14 + 1) (i_14 + 1) (by rw [hi_14, nI_1]) hlt_14 (by omega) v_52.1 ((ft_oi261 o_14 g_14 (s_X4_holderOf (q 0) y2_14 x1)).1) ((ft_oi261 o_14 g_14 (s_X4_holderOf (q 0) y2_14 x1)).2) _ _ hP hD hS hbb (hok.mono (by omega)) ls (lv_sub hl [2, 3, 0] rfl) hsp
        · replace hsp := (if_pos c_31).symm.trans hsp
          refine lv_aload_n hx hb dX7_renderDay_34 rfl (lv_at hl 1 rfl) ?_
          refine va_get (D := dC) (ci := 9) (v := .ref (ad 260)) (C := RX7) (T := TX7) (N := 9) hx hb hts (by decide +kernel) hown hK.1 hP (253 + 0) (ft_get' (by decide) rfl) rfl 5 (by decide) (hts (.fieldLink RX7 39 "FoodTruckRota" "output" "Ljava/lang/StringBuilder;") (by decide +kernel)) (fun _ h9 => h9) rfl dX7_renderDay_35 ?_
          refine lv_bipush (v := 45) hx hb dX7_renderDay_38 (by decide) ?_
          have hl5 : i_14 + 1 ≤ 5 := hlt_14
          have hcn := hok.cnt (by omega)
          refine va_callr (va_runV (As := [.int (45)]) (rest := []) ⟨hx, hb, hml, hown, hts⟩ (c_J4_append_cf468 l dC Z (fun j => (va_up ad 261 b_14) (260 + j)) k (o_14 9, o_14 7, g_14.2.1.1, g_14.2.1.2) 45 (tn (o_14 7)) H.size hcn.1 (by decide) (Nat.le_trans hcn.2.2.2 (by decide)) (hok.gc (m := (tn (o_14 7)) + 1) (by omega)) hok.2.2) (cwV 1 hts gX7_renderDay_J4_append_cf468 rfl rfl rfl (by decide +kernel) ⟨Nat.le_of_ble_eq_true rfl, Nat.le_of_ble_eq_true rfl⟩) (ft_preVh' hE hS (fun x h => ft_fA_261 hbb (Nat.le_trans hsz hS.1) x h) (ft_R_B hP) (ft_D_261 hD) (Nat.le_refl _) (ci := 1) rfl (ft_get' (by decide) rfl)) rfl rfl hl.1 rfl (lv_room (Nat.le_of_ble_eq_true rfl)) dX7_renderDay_40 ⟨(show 1 + 1 * i_14 + 1 ≤ 6 by omega), (show 6 + 150 * i_14 + 150 ≤ 756 by omega)⟩) hS (fun x _ h => ft_fA_261 hbb (Nat.le_trans hsz hS.1) x h) (fun x h => ft_fA_261 hbb (Nat.le_trans hsz hS.1) x h) (fun v_40 ra t H1 locs1 ht hvm hw hB hz1 hk1 hS1 => ?_)
          obtain ⟨hra, hv1, hB⟩ := hB
          have hra : ra = ad 260 := hra
          subst hra
          rw [ht] at hB
          have hW := ft_grow_261 hP hD (fun x hx9 => Or.inr (Nat.le_trans (Nat.le_trans hsz hS.1) hx9)) hpm hv1 hk1 hB
          rw [hw, ft_upp_261] at hW
          have hbb := ft_bb_261 hbb (Nat.le_trans hsz hS.1) hv1
          clear hS
          have hS := hS1
          clear hS1
          obtain ⟨hP, hD⟩ := hW
          have hP : va_P dC vwCl (ft_WR (va_up ad 261 v_40.1) k Z q pm ((ft_oc261 o_14 g_14 45).1) ((ft_oc261 o_14 g_14 45).2)) H1 := hP
          have hD : va_D (ft_An 292 ad sz) (ft_WR (va_up ad 261 v_40.1) k Z q pm ((ft_oc261 o_14 g_14 45).1) ((ft_oc261 o_14 g_14 45).2)) := hD
          have hok : ft_ok261 ((ft_oc261 o_14 g_14 45).1) ((ft_oc261 o_14 g_14 45).2) (0 + 1 * i_14 + 1) := hok.c (x := 45) (by omega)
          generalize H1 = H at hP hS ⊢
          refine W.widen (k := 1 + 1 * i_14 + 1) (n := 6 + 150 * i_14 + 150) (Nat.le_refl _) (Nat.le_refl _) ?_
          refine lv_pop hx hb dX7_renderDay_43 rfl ?_
          refine lv_goto (tgt := 56) hx hb dX7_renderDay_44 (by decide) ?_
          refine lv_iinc (v := y2_14 + 1) (lv' := [(2, .int (y2_14 + 1)), (3, .int ((s_X4_holderOf (q 0) y2_14 x1))), (0, .ref (ad 253)), (1, .int (x1))]) hx hb dX7_renderDay_56 hl (k := 3) rfl rfl (by decide) rfl (fun ls hl => ?_)
          refine lv_goto (tgt := 14) hx hb dX7_renderDay_59 (by decide) ?_
          refine W.widen (k := 1 + 1 * (i_14 + 1)) (n := 6 + 150 * (i_14 + 1)) (by omega) (by omega) ?_
          exact ih_14 (y2_14 + 1) (i_14 + 1) (by rw [hi_14, nI_1]) hlt_14 (by omega) v_40.1 ((ft_oc261 o_14 g_14 45).1) ((ft_oc261 o_14 g_14 45).2) _ _ hP hD hS hbb (hok.mono (by omega)) ls (lv_sub hl [2, 3, 0] rfl) hsp
  refine W.widen (k := 1 + 1 * 0) (n := 6 + 150 * 0) (Nat.le_refl _) (Nat.le_refl _) ?_
  refine loop_14 _ (fun y2_14 i_14 hi_14 hm_14 b_14 o_14 g_14 H locs hP hD hS hbb hok ls hl hsp => ?_) (tn 5 + 1) 0 0 rfl (Nat.zero_le _) (by omega) b ((ft_oz261 o g).1) ((ft_oz261 o g).2) _ _ hP hD hS hbb (hok.mono (by omega)) ls (lv_sub hl [1, 2, 0] rfl) hsp
  have hm5 : i_14 ≤ 5 := hm_14
  refine W.widen (k := 6) (n := 756) (by omega) (by omega) ?_
  have hok : ft_ok261 o_14 g_14 5 := hok.mono (by omega)
  refine lv_aload_n hx hb dX7_renderDay_62 rfl (lv_at hl 0 rfl) ?_
  refine va_get (D := dC) (ci := 9) (v := .ref (ad 260)) (C := RX7) (T := TX7) (N := 9) hx hb hts (by decide +kernel) hown hK.1 hP (253 + 0) (ft_get' (by decide) rfl) rfl 5 (by decide) (hts (.fieldLink RX7 39 "FoodTruckRota" "output" "Ljava/lang/StringBuilder;") (by decide +kernel)) (fun _ h9 => h9) rfl dX7_renderDay_63 ?_
  refine vp_callSi (va_Run.run (va_runV (As := []) (rest := []) ⟨hx, hb, hml, hown, hts⟩ (c_J4_length_8abf5 l dC (fun j => (va_up ad 261 b_14) (260 + j)) k (o_14 9, o_14 7, g_14.2.1.1, g_14.2.1.2)) (cwV 0 hts gX7_renderDay_J4_length_8abf5 rfl rfl rfl (by decide +kernel) ⟨Nat.le_of_ble_eq_true rfl, Nat.le_of_ble_eq_true rfl⟩) (ft_preVc hK (ft_R_B hP) (ci := 1) rfl (ft_get' (by decide) rfl)) rfl rfl hl.1 rfl (lv_room (Nat.le_of_ble_eq_true rfl)) dX7_renderDay_66 ⟨Nat.le_of_ble_eq_true rfl, Nat.le_of_ble_eq_true rfl⟩)) (fun z hz => ?_)
  subst hz
  refine vx_ret ?_
  refine W.widen (k := 6) (n := 756) (by omega) (by omega) ?_
  exact W.iret (v := (s_J4_length_8abf5 (o_14 9, o_14 7, g_14.2.1.1, g_14.2.1.2))) hx hb hr (fun t ht hW => ⟨⟨(s_J4_length_8abf5 (o_14 9, o_14 7, g_14.2.1.1, g_14.2.1.2)), (b_14, (o_14, g_14)), rfl, hsp, hbb, ft_heap ht hP⟩, hS.F ht⟩) hS.2.2 dX7_renderDay_69

def s_X7_renderTruck_L44 (q : Nat → Nat → Int32) (o : Nat → Int32) (g : ft_G) (x1 : Int32) (K : Int32 → (Nat → Int32) → ft_G → (Except String Int32 × ((Nat → Int32) × ft_G))) : Nat → Int32 → (Nat → Int32) → ft_G → (Except String Int32 × ((Nat → Int32) × ft_G))
  | 0, y3_44, o_44, g_44 => K y3_44 o_44 g_44
  | n + 1, y3_44, o_44, g_44 => if 4 ≤ y3_44 then (K y3_44 o_44 g_44) else (if y3_44 ≤ 0 then (s_X7_renderTruck_L44 q o g x1 K n (y3_44 + 1) ((ft_oi261 o_44 g_44 (s_X6_portionsOf (q 0) (51 + 17 * (tn x1)) y3_44)).1) ((ft_oi261 o_44 g_44 (s_X6_portionsOf (q 0) (51 + 17 * (tn x1)) y3_44)).2)) else (s_X7_renderTruck_L44 q o g x1 K n (y3_44 + 1) ((ft_oi261 ((ft_oc261 o_44 g_44 44).1) ((ft_oc261 o_44 g_44 44).2) (s_X6_portionsOf (q 0) (51 + 17 * (tn x1)) y3_44)).1) ((ft_oi261 ((ft_oc261 o_44 g_44 44).1) ((ft_oc261 o_44 g_44 44).2) (s_X6_portionsOf (q 0) (51 + 17 * (tn x1)) y3_44)).2)))
def s_X7_renderTruck_L130 (q : Nat → Nat → Int32) (o : Nat → Int32) (g : ft_G) (x1 : Int32) (K : Int32 → (Nat → Int32) → ft_G → (Except String Int32 × ((Nat → Int32) × ft_G))) : Nat → Int32 → (Nat → Int32) → ft_G → (Except String Int32 × ((Nat → Int32) × ft_G))
  | 0, y4_130, o_130, g_130 => K y4_130 o_130 g_130
  | n + 1, y4_130, o_130, g_130 => if (q 0 (51 + 17 * (tn x1) + 2)) ≤ y4_130 then (K y4_130 o_130 g_130) else (s_X7_renderTruck_L130 q o g x1 K n (y4_130 + 1) ((ft_oc261 o_130 g_130 113).1) ((ft_oc261 o_130 g_130 113).2))
def s_X7_renderTruck (q : Nat → Nat → Int32) (o : Nat → Int32) (g : ft_G) (x1 : Int32) : Except String Int32 × ((Nat → Int32) × ft_G) := ft_xs (s_X7_needTruck q o x1) (o, g) (fun _ => s_X7_renderTruck_L44 q o g x1 (fun y3_44 o_44 g_44 => if (s_X4_pitchToday (q 0) x1) = (-1) then ((.ok (s_J4_length_8abf5 (((ft_oi261 ((ft_oc261 o_44 g_44 36).1) ((ft_oc261 o_44 g_44 36).2) (q 0 (51 + 17 * (tn x1) + 0))).1) 9, ((ft_oi261 ((ft_oc261 o_44 g_44 36).1) ((ft_oc261 o_44 g_44 36).2) (q 0 (51 + 17 * (tn x1) + 0))).1) 7, ((ft_oi261 ((ft_oc261 o_44 g_44 36).1) ((ft_oc261 o_44 g_44 36).2) (q 0 (51 + 17 * (tn x1) + 0))).2).2.1.1, ((ft_oi261 ((ft_oc261 o_44 g_44 36).1) ((ft_oc261 o_44 g_44 36).2) (q 0 (51 + 17 * (tn x1) + 0))).2).2.1.2)), ((ft_oi261 ((ft_oc261 o_44 g_44 36).1) ((ft_oc261 o_44 g_44 36).2) (q 0 (51 + 17 * (tn x1) + 0))).1, (ft_oi261 ((ft_oc261 o_44 g_44 36).1) ((ft_oc261 o_44 g_44 36).2) (q 0 (51 + 17 * (tn x1) + 0))).2))) else (s_X7_renderTruck_L130 q o g x1 (fun y4_130 o_130 g_130 => (.ok (s_J4_length_8abf5 (o_130 9, o_130 7, g_130.2.1.1, g_130.2.1.2)), (o_130, g_130))) (tn (q 0 (51 + 17 * (tn x1) + 2)) + 1) 0 ((ft_oi261 ((ft_oc261 ((ft_oi261 ((ft_oc261 o_44 g_44 36).1) ((ft_oc261 o_44 g_44 36).2) (q 0 (51 + 17 * (tn x1) + 0))).1) ((ft_oi261 ((ft_oc261 o_44 g_44 36).1) ((ft_oc261 o_44 g_44 36).2) (q 0 (51 + 17 * (tn x1) + 0))).2) 64).1) ((ft_oc261 ((ft_oi261 ((ft_oc261 o_44 g_44 36).1) ((ft_oc261 o_44 g_44 36).2) (q 0 (51 + 17 * (tn x1) + 0))).1) ((ft_oi261 ((ft_oc261 o_44 g_44 36).1) ((ft_oc261 o_44 g_44 36).2) (q 0 (51 + 17 * (tn x1) + 0))).2) 64).2) (s_X4_pitchToday (q 0) x1)).1) ((ft_oi261 ((ft_oc261 ((ft_oi261 ((ft_oc261 o_44 g_44 36).1) ((ft_oc261 o_44 g_44 36).2) (q 0 (51 + 17 * (tn x1) + 0))).1) ((ft_oi261 ((ft_oc261 o_44 g_44 36).1) ((ft_oc261 o_44 g_44 36).2) (q 0 (51 + 17 * (tn x1) + 0))).2) 64).1) ((ft_oc261 ((ft_oi261 ((ft_oc261 o_44 g_44 36).1) ((ft_oc261 o_44 g_44 36).2) (q 0 (51 + 17 * (tn x1) + 0))).1) ((ft_oi261 ((ft_oc261 o_44 g_44 36).1) ((ft_oc261 o_44 g_44 36).2) (q 0 (51 + 17 * (tn x1) + 0))).2) 64).2) (s_X4_pitchToday (q 0) x1)).2))) (tn 4 + 1) 0 ((ft_oc261 ((ft_oi261 ((ft_oc261 ((ft_oz261 o g).1) ((ft_oz261 o g).2) 116).1) ((ft_oc261 ((ft_oz261 o g).1) ((ft_oz261 o g).2) 116).2) x1).1) ((ft_oi261 ((ft_oc261 ((ft_oz261 o g).1) ((ft_oz261 o g).2) 116).1) ((ft_oc261 ((ft_oz261 o g).1) ((ft_oz261 o g).2) 116).2) x1).2) 58).1) ((ft_oc261 ((ft_oi261 ((ft_oc261 ((ft_oz261 o g).1) ((ft_oz261 o g).2) 116).1) ((ft_oc261 ((ft_oz261 o g).1) ((ft_oz261 o g).2) 116).2) x1).1) ((ft_oi261 ((ft_oc261 ((ft_oz261 o g).1) ((ft_oz261 o g).2) 116).1) ((ft_oc261 ((ft_oz261 o g).1) ((ft_oz261 o g).2) 116).2) x1).2) 58).2))
set_option maxHeartbeats 4000000 in
set_option maxRecDepth 100000 in
theorem c_X7_renderTruck (l : Launch) (hl0 : l.stackTraces = false) (dC : va_G) (Z : Nat → Nat → Nat) (ad : Nat → Nat) (k : Nat → ClassId) (q : Nat → Nat → Int32) (pm : Nat → Nat) (o : Nat → Int32) (g : ft_G) (x1 : Int32) (sz : Nat) (hpm : ∀ i, i < 8 → pm i < 8) (hok : ft_ok261 o g 70) (hT : tn x1 < 10) (hH : ∀ y : Int32, ¬ s_X6_portionsOf (q 0) (51 + 17 * tn x1) y < 0 ∧ tn (s_X6_portionsOf (q 0) (51 + 17 * tn x1) y) < 1000) (hC : ¬ q 0 (51 + 17 * tn x1 + 0) < 0) (hp : s_X4_pitchToday (q 0) x1 = -1 ∨ (¬ s_X4_pitchToday (q 0) x1 < 0 ∧ tn (s_X4_pitchToday (q 0) x1) < 10)) (hq : tn (q 0 (51 + 17 * tn x1 + 2)) ≤ 9) : vx_Met l yX7_renderTruck wsX7_renderTruck ({ frames := 7, cells := 25, slots := 3606, locals := 224 }) (ft_Ph dC k Z (ft_An 292 ad sz) [.ref (ad 253), .int x1] (ft_WR ad k Z q pm o g) sz) (va_Qi (fun (z : Int32) (u : Nat × ((Nat → Int32) × ft_G)) => (.ok z, u.2) = s_X7_renderTruck q o g x1) (fun (u : Nat × ((Nat → Int32) × ft_G)) (t : State) => (u.1 = ad 261 ∨ sz ≤ u.1) ∧ va_P dC vwCl (ft_WR (va_up ad 261 u.1) k Z q pm u.2.1 u.2.2) t.heap) (ft_An 292 ad sz)) (vx_X (fun (_ : Nat × ((Nat → Int32) × ft_G)) => True) (fun (E : String) (u : Nat × ((Nat → Int32) × ft_G)) (t : State) => (.error E, u.2) = s_X7_renderTruck q o g x1 ∧ (u.1 = ad 261 ∨ sz ≤ u.1) ∧ va_P dC vwCl (ft_WR (va_up ad 261 u.1) k Z q pm u.2.1 u.2.2) t.heap) (ft_An 292 ad sz)) 25 3606 (ft_An 292 ad sz) := by
  refine vx_ofW (cc := cX7_renderTruck) (maxL := 5) (ret := (some .int)) (by decide) rfl ?_
  intro p e s m args below meth c s₁ B hml hnt hv
  obtain ⟨hargs, hP0, hE, hD0, hsz⟩ := hv
  have hK := hE.1
  subst hargs
  have hx := B.exec
  have hb := B.bytes
  have hr := B.returns
  have hts := atoms_spec (ws := wsX7_renderTruck) B.pre
  have hown : s.vm.findClass RX7 = some m.cls := findClass_of_methodNamed B.named
  have hlocks := B.notSynchronized
  have hD1 : va_D (ft_An 292 ad sz) (ft_WR ad k Z q pm o g) := (ft_D_self hD0).weaken (fun _ _ _ h => Or.inl h)
  obtain ⟨b, hbb, hP, hD⟩ : ∃ b, (b = ad 261 ∨ sz ≤ b) ∧ va_P dC vwCl (ft_WR (va_up ad 261 b) k Z q pm o g) s.heap ∧ va_D (ft_An 292 ad sz) (ft_WR (va_up ad 261 b) k Z q pm o g) := ⟨ad 261, Or.inl rfl, by rw [ft_up_261]; exact hP0, by rw [ft_up_261]; exact hD1⟩
  have hS : va_S (ft_An 292 ad sz) s.heap s.heap [] := va_S.rf
  have hl := lv_entry ([.ref (ad 253), .int x1]) (n := 5) (Nat.le_of_ble_eq_true rfl)
  rw [lg_entry_eq]
  generalize (lg_sl ([.ref (ad 253), .int x1]) ++ List.replicate (5 - (lg_sl ([.ref (ad 253), .int x1])).length) Slot.unset).toArray = ls at hl ⊢
  have hl : lv_has ls 5 [(0, .ref (ad 253)), (1, .int (x1))] := hl
  have hsp := (s_X7_renderTruck.eq_1 q o g x1).symm
  refine lv_aload_n hx hb dX7_renderTruck_0 rfl (lv_at hl 0 rfl) ?_
  refine lv_iload_n hx hb dX7_renderTruck_1 rfl (lv_at hl 1 rfl) ?_
  refine vx_callv (vx_runV (As := [.int (x1)]) (rest := []) ⟨hx, hb, hml, hown, hts⟩ (c_X7_needTruck l hl0 dC Z (ft_An 292 ad sz) (va_up ad 261 b) k q pm o g x1) (cwV 1 hts gX7_renderTruck_X7_needTruck rfl rfl rfl (by decide +kernel) ⟨Nat.le_of_ble_eq_true rfl, Nat.le_of_ble_eq_true rfl⟩) (ft_preVg hE hS (fun _ h => h) hP (ci := 9) (q0 := 253) rfl (ft_get' (by decide) rfl)) rfl rfl hl.1 rfl (lv_room (Nat.le_of_ble_eq_true rfl)) dX7_renderTruck_2 ⟨Nat.le_of_ble_eq_true rfl, Nat.le_of_ble_eq_true rfl⟩) hS (fun _ _ h => h.elim) (fun _ h => h.elim) (fun _ _ h => h.elim) (fun E ce q9 u t H1 locs1 ht hvm hu hB hz1 hk1 hS1 hc1 hc2 hc3 => ?_) (fun u t H1 locs1 ht hvm hw hB hz1 hk1 hS1 => ?_)
  · exact vx_out (fun x hx9 => (hnt x hx9).elim) hlocks hc1 hc2 hc3 (fun t2 ht2 hv2 => ⟨(b, (o, g)), trivial, ⟨(ft_xs_err hB hsp).symm, hbb, ft_heap ht2 (ft_keep hP hk1)⟩, hS1.F ht2⟩) hS1.2.2 (by decide) (by decide)
  replace hsp := ft_xs_ok hw hsp
  have hP := ft_keep hP hk1
  have hw_2 := hw
  have hS := hS1
  clear hS1
  generalize H1 = H at hP hS ⊢
  refine lv_aload_n hx hb dX7_renderTruck_5 rfl (lv_at hl 0 rfl) ?_
  refine va_get (D := dC) (ci := 9) (v := .ref (ft_sq ad 0 0)) (C := RX7) (T := TX7) (N := 9) hx hb hts (by decide +kernel) hown hK.1 hP (253 + 0) (ft_get' (by decide) rfl) rfl 0 (by decide) (hts (.fieldLink RX7 12 "FoodTruckRota" "square" "LFoodTruckRota$Square;") (by decide +kernel)) (fun _ h9 => h9) rfl dX7_renderTruck_6 ?_
  refine va_getN (D := dC) (ci := 6) (v := .ref (ft_sq ad 0 1)) (C := RX4) (T := TX4) (N := 12) hx hb hts (by decide +kernel) hown hK.1 (ft_sqs_261 hP (s := 0) (by decide)) 0 (ft_get' (by decide) rfl) rfl 0 (by decide) (ft_nl hK.2 8 rfl) (fun _ h9 => h9) rfl dX7_renderTruck_9 ?_
  refine lv_iload_n hx hb dX7_renderTruck_12 rfl (lv_at hl 1 rfl) ?_
  have h_13 : vp_in x1 6 := by exact need_in (by assumption)
  refine va_aldq (C := RX6) hx hb hK.1 (ft_sqs_261 hP (s := 0) (by decide)) 1 1 (ft_get' (by decide) rfl) rfl h_13 dX7_renderTruck_13 ?_
  refine W.eq (g2 := F0 m 14 ls [.ref (ft_at (ft_sq ad 0) (tn x1) 0)]) rfl ?_
  refine lv_astore_n (lv' := [(2, .ref (ft_at (ft_sq ad 0) (tn x1) 0)), (0, .ref (ad 253)), (1, .int (x1))]) hx hb dX7_renderTruck_14 rfl hl (by decide) rfl (fun ls hl => ?_)
  refine lv_aload_n hx hb dX7_renderTruck_15 rfl (lv_at hl 1 rfl) ?_
  refine va_get (D := dC) (ci := 9) (v := .ref (ad 260)) (C := RX7) (T := TX7) (N := 9) hx hb hts (by decide +kernel) hown hK.1 hP (253 + 0) (ft_get' (by decide) rfl) rfl 5 (by decide) (hts (.fieldLink RX7 39 "FoodTruckRota" "output" "Ljava/lang/StringBuilder;") (by decide +kernel)) (fun _ h9 => h9) rfl dX7_renderTruck_16 ?_
  refine lv_iconst (v := 0) hx hb dX7_renderTruck_19 (by decide) ?_
  have hcn := hok.cnt (by omega)
  refine va_callv (va_runV (As := [.int (0)]) (rest := []) ⟨hx, hb, hml, hown, hts⟩ (c_J4_setLength_d00df_0 l dC (fun j => (va_up ad 261 b) (260 + j)) k (o 9, o 7, g.2.1.1, g.2.1.2) 0 (tn (o 7)) rfl hcn.1 (by omega) (Nat.le_trans hcn.2.2.2 (by decide))) (cwV 1 hts gX7_renderTruck_J4_setLength_d00df rfl rfl rfl (by decide +kernel) ⟨Nat.le_of_ble_eq_true rfl, Nat.le_of_ble_eq_true rfl⟩) (ft_preVd hK (ft_R_B hP) (ft_D_261 hD) (ci := 1) rfl (ft_get' (by decide) rfl)) rfl rfl hl.1 rfl (lv_room (Nat.le_of_ble_eq_true rfl)) dX7_renderTruck_20 ⟨Nat.le_of_ble_eq_true rfl, Nat.le_of_ble_eq_true rfl⟩) hS (fun x _ h => ft_fA_261 hbb (Nat.le_trans hsz hS.1) x (Or.inl h)) (fun x h => ft_fA_261 hbb (Nat.le_trans hsz hS.1) x (Or.inl h)) (fun v_20 t H1 locs1 ht hvm hw hB hz1 hk1 hS1 => ?_)
  rw [ht] at hB
  rw [hw] at hB
  have hW := ft_same_261 hP hD (fun x hx9 => Or.inr (Nat.le_trans (Nat.le_trans hsz hS.1) hx9)) hpm hk1 hB
  clear hS
  have hS := hS1
  clear hS1
  obtain ⟨hP, hD⟩ := hW
  have hP : va_P dC vwCl (ft_WR (va_up ad 261 b) k Z q pm ((ft_oz261 o g).1) ((ft_oz261 o g).2)) H1 := hP
  have hD : va_D (ft_An 292 ad sz) (ft_WR (va_up ad 261 b) k Z q pm ((ft_oz261 o g).1) ((ft_oz261 o g).2)) := hD
  have hok : ft_ok261 ((ft_oz261 o g).1) ((ft_oz261 o g).2) (0) := hok.z
  generalize H1 = H at hP hS ⊢
  refine lv_aload_n hx hb dX7_renderTruck_23 rfl (lv_at hl 1 rfl) ?_
  refine va_get (D := dC) (ci := 9) (v := .ref (ad 260)) (C := RX7) (T := TX7) (N := 9) hx hb hts (by decide +kernel) hown hK.1 hP (253 + 0) (ft_get' (by decide) rfl) rfl 5 (by decide) (hts (.fieldLink RX7 39 "FoodTruckRota" "output" "Ljava/lang/StringBuilder;") (by decide +kernel)) (fun _ h9 => h9) rfl dX7_renderTruck_24 ?_
  refine lv_bipush (v := 116) hx hb dX7_renderTruck_27 (by decide) ?_
  have hcn := hok.cnt (by omega)
  refine va_callr (va_runV (As := [.int (116)]) (rest := []) ⟨hx, hb, hml, hown, hts⟩ (c_J4_append_cf468 l dC Z (fun j => (va_up ad 261 b) (260 + j)) k (((ft_oz261 o g).1) 9, ((ft_oz261 o g).1) 7, ((ft_oz261 o g).2).2.1.1, ((ft_oz261 o g).2).2.1.2) 116 (tn (((ft_oz261 o g).1) 7)) H.size hcn.1 (by decide) (Nat.le_trans hcn.2.2.2 (by decide)) (hok.gc (m := (tn (((ft_oz261 o g).1) 7)) + 1) (by omega)) hok.2.2) (cwV 1 hts gX7_renderTruck_J4_append_cf468 rfl rfl rfl (by decide +kernel) ⟨Nat.le_of_ble_eq_true rfl, Nat.le_of_ble_eq_true rfl⟩) (ft_preVh' hE hS (fun x h => ft_fA_261 hbb (Nat.le_trans hsz hS.1) x h) (ft_R_B hP) (ft_D_261 hD) (Nat.le_refl _) (ci := 1) rfl (ft_get' (by decide) rfl)) rfl rfl hl.1 rfl (lv_room (Nat.le_of_ble_eq_true rfl)) dX7_renderTruck_29 ⟨Nat.le_of_ble_eq_true rfl, Nat.le_of_ble_eq_true rfl⟩) hS (fun x _ h => ft_fA_261 hbb (Nat.le_trans hsz hS.1) x h) (fun x h => ft_fA_261 hbb (Nat.le_trans hsz hS.1) x h) (fun v_29 ra t H1 locs1 ht hvm hw hB hz1 hk1 hS1 => ?_)
  obtain ⟨hra, hv1, hB⟩ := hB
  have hra : ra = ad 260 := hra
  subst hra
  rw [ht] at hB
  have hW := ft_grow_261 hP hD (fun x hx9 => Or.inr (Nat.le_trans (Nat.le_trans hsz hS.1) hx9)) hpm hv1 hk1 hB
  rw [hw, ft_upp_261] at hW
  have hbb := ft_bb_261 hbb (Nat.le_trans hsz hS.1) hv1
  clear hS
  have hS := hS1
  clear hS1
  obtain ⟨hP, hD⟩ := hW
  have hP : va_P dC vwCl (ft_WR (va_up ad 261 v_29.1) k Z q pm ((ft_oc261 ((ft_oz261 o g).1) ((ft_oz261 o g).2) 116).1) ((ft_oc261 ((ft_oz261 o g).1) ((ft_oz261 o g).2) 116).2)) H1 := hP
  have hD : va_D (ft_An 292 ad sz) (ft_WR (va_up ad 261 v_29.1) k Z q pm ((ft_oc261 ((ft_oz261 o g).1) ((ft_oz261 o g).2) 116).1) ((ft_oc261 ((ft_oz261 o g).1) ((ft_oz261 o g).2) 116).2)) := hD
  have hok : ft_ok261 ((ft_oc261 ((ft_oz261 o g).1) ((ft_oz261 o g).2) 116).1) ((ft_oc261 ((ft_oz261 o g).1) ((ft_oz261 o g).2) 116).2) (1) := hok.c (x := 116) (by omega)
  generalize H1 = H at hP hS ⊢
  refine W.widen (k := 2) (n := 156) (Nat.le_refl _) (Nat.le_refl _) ?_
  refine lv_iload_n hx hb dX7_renderTruck_32 rfl (lv_at hl 2 rfl) ?_
  have hnn : ¬ x1 < 0 := ft_in_nn h_13
  have hdg : sb_dg (tn x1) ≤ 1 := (ft_sdg1 hT)
  have hcn := hok.cnt (by omega)
  refine va_callr (va_runV (As := [.int (x1)]) (rest := []) ⟨hx, hb, hml, hown, hts⟩ (c_J4_append_bf812 l dC Z (fun j => (va_up ad 261 v_29.1) (260 + j)) k (((ft_oc261 ((ft_oz261 o g).1) ((ft_oz261 o g).2) 116).1) 9, ((ft_oc261 ((ft_oz261 o g).1) ((ft_oz261 o g).2) 116).1) 7, ((ft_oc261 ((ft_oz261 o g).1) ((ft_oz261 o g).2) 116).2).2.1.1, ((ft_oc261 ((ft_oz261 o g).1) ((ft_oz261 o g).2) 116).2).2.1.2) x1 (tn (((ft_oc261 ((ft_oz261 o g).1) ((ft_oz261 o g).2) 116).1) 7)) H.size (tn x1) hcn.1 (ft_nat0 hnn) (ft_tn31 _) (by omega) (Nat.le_trans hcn.2.2.2 (by decide)) (hok.gc (m := (tn (((ft_oc261 ((ft_oz261 o g).1) ((ft_oz261 o g).2) 116).1) 7)) + sb_dg (tn x1)) (by omega)) hok.2.2) (cwV 1 hts gX7_renderTruck_J4_append_bf812 rfl rfl rfl (by decide +kernel) ⟨Nat.le_of_ble_eq_true rfl, Nat.le_of_ble_eq_true rfl⟩) (ft_preVh' hE hS (fun x h => ft_fA_261 hbb (Nat.le_trans hsz hS.1) x h) (ft_R_B hP) (ft_D_261 hD) (Nat.le_refl _) (ci := 1) rfl (ft_get' (by decide) rfl)) rfl rfl hl.1 rfl (lv_room (Nat.le_of_ble_eq_true rfl)) dX7_renderTruck_33 ⟨Nat.le_of_ble_eq_true rfl, Nat.le_of_ble_eq_true rfl⟩) hS (fun x _ h => ft_fA_261 hbb (Nat.le_trans hsz hS.1) x h) (fun x h => ft_fA_261 hbb (Nat.le_trans hsz hS.1) x h) (fun v_33 ra t H1 locs1 ht hvm hw hB hz1 hk1 hS1 => ?_)
  obtain ⟨hra, hv1, hB⟩ := hB
  have hra : ra = ad 260 := hra
  subst hra
  rw [ht] at hB
  have hW := ft_grow_261 hP hD (fun x hx9 => Or.inr (Nat.le_trans (Nat.le_trans hsz hS.1) hx9)) hpm hv1 hk1 hB
  rw [hw, ft_upp_261] at hW
  have hbb := ft_bb_261 hbb (Nat.le_trans hsz hS.1) hv1
  clear hS
  have hS := hS1
  clear hS1
  obtain ⟨hP, hD⟩ := hW
  have hP : va_P dC vwCl (ft_WR (va_up ad 261 v_33.1) k Z q pm ((ft_oi261 ((ft_oc261 ((ft_oz261 o g).1) ((ft_oz261 o g).2) 116).1) ((ft_oc261 ((ft_oz261 o g).1) ((ft_oz261 o g).2) 116).2) x1).1) ((ft_oi261 ((ft_oc261 ((ft_oz261 o g).1) ((ft_oz261 o g).2) 116).1) ((ft_oc261 ((ft_oz261 o g).1) ((ft_oz261 o g).2) 116).2) x1).2)) H1 := hP
  have hD : va_D (ft_An 292 ad sz) (ft_WR (va_up ad 261 v_33.1) k Z q pm ((ft_oi261 ((ft_oc261 ((ft_oz261 o g).1) ((ft_oz261 o g).2) 116).1) ((ft_oc261 ((ft_oz261 o g).1) ((ft_oz261 o g).2) 116).2) x1).1) ((ft_oi261 ((ft_oc261 ((ft_oz261 o g).1) ((ft_oz261 o g).2) 116).1) ((ft_oc261 ((ft_oz261 o g).1) ((ft_oz261 o g).2) 116).2) x1).2)) := hD
  have hok : ft_ok261 ((ft_oi261 ((ft_oc261 ((ft_oz261 o g).1) ((ft_oz261 o g).2) 116).1) ((ft_oc261 ((ft_oz261 o g).1) ((ft_oz261 o g).2) 116).2) x1).1) ((ft_oi261 ((ft_oc261 ((ft_oz261 o g).1) ((ft_oz261 o g).2) 116).1) ((ft_oc261 ((ft_oz261 o g).1) ((ft_oz261 o g).2) 116).2) x1).2) (2) := hok.i (x := x1) hdg (by omega)
  generalize H1 = H at hP hS ⊢
  refine W.widen (k := 3) (n := 306) (Nat.le_refl _) (Nat.le_refl _) ?_
  refine lv_bipush (v := 58) hx hb dX7_renderTruck_36 (by decide) ?_
  have hcn := hok.cnt (by omega)
  refine va_callr (va_runV (As := [.int (58)]) (rest := []) ⟨hx, hb, hml, hown, hts⟩ (c_J4_append_cf468 l dC Z (fun j => (va_up ad 261 v_33.1) (260 + j)) k (((ft_oi261 ((ft_oc261 ((ft_oz261 o g).1) ((ft_oz261 o g).2) 116).1) ((ft_oc261 ((ft_oz261 o g).1) ((ft_oz261 o g).2) 116).2) x1).1) 9, ((ft_oi261 ((ft_oc261 ((ft_oz261 o g).1) ((ft_oz261 o g).2) 116).1) ((ft_oc261 ((ft_oz261 o g).1) ((ft_oz261 o g).2) 116).2) x1).1) 7, ((ft_oi261 ((ft_oc261 ((ft_oz261 o g).1) ((ft_oz261 o g).2) 116).1) ((ft_oc261 ((ft_oz261 o g).1) ((ft_oz261 o g).2) 116).2) x1).2).2.1.1, ((ft_oi261 ((ft_oc261 ((ft_oz261 o g).1) ((ft_oz261 o g).2) 116).1) ((ft_oc261 ((ft_oz261 o g).1) ((ft_oz261 o g).2) 116).2) x1).2).2.1.2) 58 (tn (((ft_oi261 ((ft_oc261 ((ft_oz261 o g).1) ((ft_oz261 o g).2) 116).1) ((ft_oc261 ((ft_oz261 o g).1) ((ft_oz261 o g).2) 116).2) x1).1) 7)) H.size hcn.1 (by decide) (Nat.le_trans hcn.2.2.2 (by decide)) (hok.gc (m := (tn (((ft_oi261 ((ft_oc261 ((ft_oz261 o g).1) ((ft_oz261 o g).2) 116).1) ((ft_oc261 ((ft_oz261 o g).1) ((ft_oz261 o g).2) 116).2) x1).1) 7)) + 1) (by omega)) hok.2.2) (cwV 1 hts gX7_renderTruck_J4_append_cf468 rfl rfl rfl (by decide +kernel) ⟨Nat.le_of_ble_eq_true rfl, Nat.le_of_ble_eq_true rfl⟩) (ft_preVh' hE hS (fun x h => ft_fA_261 hbb (Nat.le_trans hsz hS.1) x h) (ft_R_B hP) (ft_D_261 hD) (Nat.le_refl _) (ci := 1) rfl (ft_get' (by decide) rfl)) rfl rfl hl.1 rfl (lv_room (Nat.le_of_ble_eq_true rfl)) dX7_renderTruck_38 ⟨Nat.le_of_ble_eq_true rfl, Nat.le_of_ble_eq_true rfl⟩) hS (fun x _ h => ft_fA_261 hbb (Nat.le_trans hsz hS.1) x h) (fun x h => ft_fA_261 hbb (Nat.le_trans hsz hS.1) x h) (fun v_38 ra t H1 locs1 ht hvm hw hB hz1 hk1 hS1 => ?_)
  obtain ⟨hra, hv1, hB⟩ := hB
  have hra : ra = ad 260 := hra
  subst hra
  rw [ht] at hB
  have hW := ft_grow_261 hP hD (fun x hx9 => Or.inr (Nat.le_trans (Nat.le_trans hsz hS.1) hx9)) hpm hv1 hk1 hB
  rw [hw, ft_upp_261] at hW
  have hbb := ft_bb_261 hbb (Nat.le_trans hsz hS.1) hv1
  clear hS
  have hS := hS1
  clear hS1
  obtain ⟨hP, hD⟩ := hW
  have hP : va_P dC vwCl (ft_WR (va_up ad 261 v_38.1) k Z q pm ((ft_oc261 ((ft_oi261 ((ft_oc261 ((ft_oz261 o g).1) ((ft_oz261 o g).2) 116).1) ((ft_oc261 ((ft_oz261 o g).1) ((ft_oz261 o g).2) 116).2) x1).1) ((ft_oi261 ((ft_oc261 ((ft_oz261 o g).1) ((ft_oz261 o g).2) 116).1) ((ft_oc261 ((ft_oz261 o g).1) ((ft_oz261 o g).2) 116).2) x1).2) 58).1) ((ft_oc261 ((ft_oi261 ((ft_oc261 ((ft_oz261 o g).1) ((ft_oz261 o g).2) 116).1) ((ft_oc261 ((ft_oz261 o g).1) ((ft_oz261 o g).2) 116).2) x1).1) ((ft_oi261 ((ft_oc261 ((ft_oz261 o g).1) ((ft_oz261 o g).2) 116).1) ((ft_oc261 ((ft_oz261 o g).1) ((ft_oz261 o g).2) 116).2) x1).2) 58).2)) H1 := hP
  have hD : va_D (ft_An 292 ad sz) (ft_WR (va_up ad 261 v_38.1) k Z q pm ((ft_oc261 ((ft_oi261 ((ft_oc261 ((ft_oz261 o g).1) ((ft_oz261 o g).2) 116).1) ((ft_oc261 ((ft_oz261 o g).1) ((ft_oz261 o g).2) 116).2) x1).1) ((ft_oi261 ((ft_oc261 ((ft_oz261 o g).1) ((ft_oz261 o g).2) 116).1) ((ft_oc261 ((ft_oz261 o g).1) ((ft_oz261 o g).2) 116).2) x1).2) 58).1) ((ft_oc261 ((ft_oi261 ((ft_oc261 ((ft_oz261 o g).1) ((ft_oz261 o g).2) 116).1) ((ft_oc261 ((ft_oz261 o g).1) ((ft_oz261 o g).2) 116).2) x1).1) ((ft_oi261 ((ft_oc261 ((ft_oz261 o g).1) ((ft_oz261 o g).2) 116).1) ((ft_oc261 ((ft_oz261 o g).1) ((ft_oz261 o g).2) 116).2) x1).2) 58).2)) := hD
  have hok : ft_ok261 ((ft_oc261 ((ft_oi261 ((ft_oc261 ((ft_oz261 o g).1) ((ft_oz261 o g).2) 116).1) ((ft_oc261 ((ft_oz261 o g).1) ((ft_oz261 o g).2) 116).2) x1).1) ((ft_oi261 ((ft_oc261 ((ft_oz261 o g).1) ((ft_oz261 o g).2) 116).1) ((ft_oc261 ((ft_oz261 o g).1) ((ft_oz261 o g).2) 116).2) x1).2) 58).1) ((ft_oc261 ((ft_oi261 ((ft_oc261 ((ft_oz261 o g).1) ((ft_oz261 o g).2) 116).1) ((ft_oc261 ((ft_oz261 o g).1) ((ft_oz261 o g).2) 116).2) x1).1) ((ft_oi261 ((ft_oc261 ((ft_oz261 o g).1) ((ft_oz261 o g).2) 116).1) ((ft_oc261 ((ft_oz261 o g).1) ((ft_oz261 o g).2) 116).2) x1).2) 58).2) (3) := hok.c (x := 58) (by omega)
  generalize H1 = H at hP hS ⊢
  refine W.widen (k := 4) (n := 456) (Nat.le_refl _) (Nat.le_refl _) ?_
  refine lv_pop hx hb dX7_renderTruck_41 rfl ?_
  refine lv_iconst (v := 0) hx hb dX7_renderTruck_42 (by decide) ?_
  refine lv_istore_n (lv' := [(3, .int (0)), (2, .ref (ft_at (ft_sq ad 0) (tn x1) 0)), (0, .ref (ad 253)), (1, .int (x1))]) hx hb dX7_renderTruck_43 rfl hl (by decide) rfl (fun ls hl => ?_)
  have hbn_44 : tn 4 = 4 := rfl
  have loop_44 : ∀ (K : Int32 → (Nat → Int32) → ft_G → (Except String Int32 × ((Nat → Int32) × ft_G))) (hKx : ∀ (y3_44 : Int32) (i_44 : Nat) (hi_44 : y3_44 = nI i_44) (hm_44 : i_44 ≤ tn 4) (b_44 : Nat) (o_44 : Nat → Int32) (g_44 : ft_G) (H : Heap) (locs : List Loc) (hP : va_P dC vwCl (ft_WR (va_up ad 261 b_44) k Z q pm o_44 g_44) H) (hD : va_D (ft_An 292 ad sz) (ft_WR (va_up ad 261 b_44) k Z q pm o_44 g_44)) (hS : va_S (ft_An 292 ad sz) s.heap H locs) (hbb : b_44 = ad 261 ∨ sz ≤ b_44) (hok : ft_ok261 o_44 g_44 (3 + 4 * i_44)) (ls : Array Slot) (hl : lv_has ls 5 [(0, .ref (ad 253)), (1, .int (x1)), (2, .ref (ft_at (ft_sq ad 0) (tn x1) 0)), (3, .int (y3_44))]) (hsp : K y3_44 o_44 g_44 = s_X7_renderTruck q o g x1), W p l e (headSpec wsX7_renderTruck ({ frames := 7, cells := 25, slots := 3606, locals := 224 })).room s m ([.ref (ad 253), .int x1] : List Value).toArray below meth c H locs (4 + 2 * i_44) (456 + 300 * i_44) (vx_MQ below (va_Qi (fun (z : Int32) (u : Nat × ((Nat → Int32) × ft_G)) => (.ok z, u.2) = s_X7_renderTruck q o g x1) (fun (u : Nat × ((Nat → Int32) × ft_G)) (t : State) => (u.1 = ad 261 ∨ sz ≤ u.1) ∧ va_P dC vwCl (ft_WR (va_up ad 261 u.1) k Z q pm u.2.1 u.2.2) t.heap) (ft_An 292 ad sz)) (vx_X (fun (_ : Nat × ((Nat → Int32) × ft_G)) => True) (fun (E : String) (u : Nat × ((Nat → Int32) × ft_G)) (t : State) => (.error E, u.2) = s_X7_renderTruck q o g x1 ∧ (u.1 = ad 261 ∨ sz ≤ u.1) ∧ va_P dC vwCl (ft_WR (va_up ad 261 u.1) k Z q pm u.2.1 u.2.2) t.heap) (ft_An 292 ad sz)) ([.ref (ad 253), .int x1] : List Value).toArray s 25 3606 (ft_An 292 ad sz)) (F0 m 82 ls [])) (n_44 : Nat), ∀ (y3_44 : Int32) (i_44 : Nat) (hi_44 : y3_44 = nI i_44) (hm_44 : i_44 ≤ tn 4) (hn_44 : tn 4 < n_44 + i_44) (b_44 : Nat) (o_44 : Nat → Int32) (g_44 : ft_G) (H : Heap) (locs : List Loc) (hP : va_P dC vwCl (ft_WR (va_up ad 261 b_44) k Z q pm o_44 g_44) H) (hD : va_D (ft_An 292 ad sz) (ft_WR (va_up ad 261 b_44) k Z q pm o_44 g_44)) (hS : va_S (ft_An 292 ad sz) s.heap H locs) (hbb : b_44 = ad 261 ∨ sz ≤ b_44) (hok : ft_ok261 o_44 g_44 (3 + 4 * i_44)) (ls : Array Slot) (hl : lv_has ls 5 [(0, .ref (ad 253)), (1, .int (x1)), (2, .ref (ft_at (ft_sq ad 0) (tn x1) 0)), (3, .int (y3_44))]) (hsp : s_X7_renderTruck_L44 q o g x1 K n_44 y3_44 o_44 g_44 = s_X7_renderTruck q o g x1), W p l e (headSpec wsX7_renderTruck ({ frames := 7, cells := 25, slots := 3606, locals := 224 })).room s m ([.ref (ad 253), .int x1] : List Value).toArray below meth c H locs (4 + 2 * i_44) (456 + 300 * i_44) (vx_MQ below (va_Qi (fun (z : Int32) (u : Nat × ((Nat → Int32) × ft_G)) => (.ok z, u.2) = s_X7_renderTruck q o g x1) (fun (u : Nat × ((Nat → Int32) × ft_G)) (t : State) => (u.1 = ad 261 ∨ sz ≤ u.1) ∧ va_P dC vwCl (ft_WR (va_up ad 261 u.1) k Z q pm u.2.1 u.2.2) t.heap) (ft_An 292 ad sz)) (vx_X (fun (_ : Nat × ((Nat → Int32) × ft_G)) => True) (fun (E : String) (u : Nat × ((Nat → Int32) × ft_G)) (t : State) => (.error E, u.2) = s_X7_renderTruck q o g x1 ∧ (u.1 = ad 261 ∨ sz ≤ u.1) ∧ va_P dC vwCl (ft_WR (va_up ad 261 u.1) k Z q pm u.2.1 u.2.2) t.heap) (ft_An 292 ad sz)) ([.ref (ad 253), .int x1] : List Value).toArray s 25 3606 (ft_An 292 ad sz)) (F0 m 44 ls []) := by
    intro K hKx n_44
    induction n_44 with
    | zero => intro y3_44 i_44 hi_44 hm_44 hn_44; exact absurd hn_44 (by omega)
    | succ n ih_44 =>
      intro y3_44 i_44 hi_44 hm_44 hn_44 b_44 o_44 g_44 H locs hP hD hS hbb hok ls hl hsp
      rw [s_X7_renderTruck_L44] at hsp
      have hbn : tn 4 = 4 := rfl
      refine lv_iload_n hx hb dX7_renderTruck_44 rfl (lv_at hl 3 rfl) ?_
      refine lv_iconst (v := 4) hx hb dX7_renderTruck_45 (by decide) ?_
      refine lv_icmp_ge (tgt := 82) hx hb dX7_renderTruck_46 (by decide) (fun c_46 => ?_) (fun c_46 => ?_)
      · replace hsp := (if_pos c_46).symm.trans hsp
        exact hKx y3_44 i_44 hi_44 hm_44 b_44 o_44 g_44 _ _ hP hD hS hbb hok ls (lv_sub hl [0, 1, 2, 3] rfl) hsp
      · replace hsp := (if_neg c_46).symm.trans hsp
        have hlt_44 := ft_step hi_44 hm_44 c_46
        refine lv_iload_n hx hb dX7_renderTruck_49 rfl (lv_at hl 3 rfl) ?_
        refine lv_if_le (tgt := 63) hx hb dX7_renderTruck_50 (by decide) (fun c_50 => ?_) (fun c_50 => ?_)
        · replace hsp := (if_pos c_50).symm.trans hsp
          refine lv_aload_n hx hb dX7_renderTruck_63 rfl (lv_at hl 0 rfl) ?_
          refine va_get (D := dC) (ci := 9) (v := .ref (ad 260)) (C := RX7) (T := TX7) (N := 9) hx hb hts (by decide +kernel) hown hK.1 hP (253 + 0) (ft_get' (by decide) rfl) rfl 5 (by decide) (hts (.fieldLink RX7 39 "FoodTruckRota" "output" "Ljava/lang/StringBuilder;") (by decide +kernel)) (fun _ h9 => h9) rfl dX7_renderTruck_64 ?_
          refine lv_aload_n hx hb dX7_renderTruck_67 rfl (lv_at hl 2 rfl) ?_
          refine lv_iload_n hx hb dX7_renderTruck_68 rfl (lv_at hl 3 rfl) ?_
          have hl5 : i_44 + 1 ≤ 4 := hlt_44
          refine vp_callSi (va_Run.run (va_runV (As := [.int (y3_44)]) (rest := [.ref (ad 260)]) ⟨hx, hb, hml, hown, hts⟩ (c_X6_portionsOf l dC (ft_at (ft_sq ad 0) (tn x1)) k (q 0) (51 + 17 * (tn x1)) y3_44) (cwV 1 hts gX7_renderTruck_X6_portionsOf rfl rfl rfl (by decide +kernel) ⟨Nat.le_of_ble_eq_true rfl, Nat.le_of_ble_eq_true rfl⟩) (ft_preVc hK (ft_S_P (ft_sqs_261 hP (s := 0) (by decide)) (ft_tn h_13)) (ci := 8) rfl (ft_get' (by decide) rfl)) rfl rfl hl.1 rfl (lv_room (Nat.le_of_ble_eq_true rfl)) dX7_renderTruck_69 ⟨(show 4 + 2 * i_44 + 0 ≤ 25 by omega), (show 456 + 300 * i_44 + 0 ≤ 3606 by omega)⟩)) (fun z hz => ?_)
          subst hz
          have hl5 : i_44 + 1 ≤ 4 := hlt_44
          have hnn : ¬ (s_X6_portionsOf (q 0) (51 + 17 * (tn x1)) y3_44) < 0 := (hH y3_44).1
          have hdg : sb_dg (tn (s_X6_portionsOf (q 0) (51 + 17 * (tn x1)) y3_44)) ≤ 3 := (ft_sdg3 (hH y3_44).2)
          have hcn := hok.cnt (by omega)
          refine va_callr (va_runV (As := [.int ((s_X6_portionsOf (q 0) (51 + 17 * (tn x1)) y3_44))]) (rest := []) ⟨hx, hb, hml, hown, hts⟩ (c_J4_append_bf812 l dC Z (fun j => (va_up ad 261 b_44) (260 + j)) k (o_44 9, o_44 7, g_44.2.1.1, g_44.2.1.2) (s_X6_portionsOf (q 0) (51 + 17 * (tn x1)) y3_44) (tn (o_44 7)) H.size (tn (s_X6_portionsOf (q 0) (51 + 17 * (tn x1)) y3_44)) hcn.1 (ft_nat0 hnn) (ft_tn31 _) (by omega) (Nat.le_trans hcn.2.2.2 (by decide)) (hok.gc (m := (tn (o_44 7)) + sb_dg (tn (s_X6_portionsOf (q 0) (51 + 17 * (tn x1)) y3_44))) (by omega)) hok.2.2) (cwV 1 hts gX7_renderTruck_J4_append_bf812 rfl rfl rfl (by decide +kernel) ⟨Nat.le_of_ble_eq_true rfl, Nat.le_of_ble_eq_true rfl⟩) (ft_preVh' hE hS (fun x h => ft_fA_261 hbb (Nat.le_trans hsz hS.1) x h) (ft_R_B hP) (ft_D_261 hD) (Nat.le_refl _) (ci := 1) rfl (ft_get' (by decide) rfl)) rfl rfl hl.1 rfl (lv_room (Nat.le_of_ble_eq_true rfl)) dX7_renderTruck_72 ⟨(show 4 + 2 * i_44 + 1 ≤ 25 by omega), (show 456 + 300 * i_44 + 150 ≤ 3606 by omega)⟩) hS (fun x _ h => ft_fA_261 hbb (Nat.le_trans hsz hS.1) x h) (fun x h => ft_fA_261 hbb (Nat.le_trans hsz hS.1) x h) (fun v_72 ra t H1 locs1 ht hvm hw hB hz1 hk1 hS1 => ?_)
          obtain ⟨hra, hv1, hB⟩ := hB
          have hra : ra = ad 260 := hra
          subst hra
          rw [ht] at hB
          have hW := ft_grow_261 hP hD (fun x hx9 => Or.inr (Nat.le_trans (Nat.le_trans hsz hS.1) hx9)) hpm hv1 hk1 hB
          rw [hw, ft_upp_261] at hW
          have hbb := ft_bb_261 hbb (Nat.le_trans hsz hS.1) hv1
          clear hS
          have hS := hS1
          clear hS1
          obtain ⟨hP, hD⟩ := hW
          have hP : va_P dC vwCl (ft_WR (va_up ad 261 v_72.1) k Z q pm ((ft_oi261 o_44 g_44 (s_X6_portionsOf (q 0) (51 + 17 * (tn x1)) y3_44)).1) ((ft_oi261 o_44 g_44 (s_X6_portionsOf (q 0) (51 + 17 * (tn x1)) y3_44)).2)) H1 := hP
          have hD : va_D (ft_An 292 ad sz) (ft_WR (va_up ad 261 v_72.1) k Z q pm ((ft_oi261 o_44 g_44 (s_X6_portionsOf (q 0) (51 + 17 * (tn x1)) y3_44)).1) ((ft_oi261 o_44 g_44 (s_X6_portionsOf (q 0) (51 + 17 * (tn x1)) y3_44)).2)) := hD
          have hok : ft_ok261 ((ft_oi261 o_44 g_44 (s_X6_portionsOf (q 0) (51 + 17 * (tn x1)) y3_44)).1) ((ft_oi261 o_44 g_44 (s_X6_portionsOf (q 0) (51 + 17 * (tn x1)) y3_44)).2) (3 + 4 * i_44 + 3) := hok.i (x := (s_X6_portionsOf (q 0) (51 + 17 * (tn x1)) y3_44)) hdg (by omega)
          generalize H1 = H at hP hS ⊢
          refine W.widen (k := 4 + 2 * i_44 + 1) (n := 456 + 300 * i_44 + 150) (Nat.le_refl _) (Nat.le_refl _) ?_
          refine lv_pop hx hb dX7_renderTruck_75 rfl ?_
          refine lv_iinc (v := y3_44 + 1) (lv' := [(3, .int (y3_44 + 1)), (0, .ref (ad 253)), (1, .int (x1)), (2, .ref (ft_at (ft_sq ad 0) (tn x1) 0))]) hx hb dX7_renderTruck_76 hl (k := 3) rfl rfl (by decide) rfl (fun ls hl => ?_)
          refine lv_goto (tgt := 44) hx hb dX7_renderTruck_79 (by decide) ?_
          refine W.widen (k := 4 + 2 * (i_44 + 1)) (n := 456 + 300 * (i_44 + 1)) (by omega) (by omega) ?_
          exact ih_44 (y3_44 + 1) (i_44 + 1) (by rw [hi_44, nI_1]) hlt_44 (by omega) v_72.1 ((ft_oi261 o_44 g_44 (s_X6_portionsOf (q 0) (51 + 17 * (tn x1)) y3_44)).1) ((ft_oi261 o_44 g_44 (s_X6_portionsOf (q 0) (51 + 17 * (tn x1)) y3_44)).2) _ _ hP hD hS hbb (hok.mono (by omega)) ls (lv_sub hl [1, 2, 3, 0] rfl) hsp
        · replace hsp := (if_neg c_50).symm.trans hsp
          refine lv_aload_n hx hb dX7_renderTruck_53 rfl (lv_at hl 0 rfl) ?_
          refine va_get (D := dC) (ci := 9) (v := .ref (ad 260)) (C := RX7) (T := TX7) (N := 9) hx hb hts (by decide +kernel) hown hK.1 hP (253 + 0) (ft_get' (by decide) rfl) rfl 5 (by decide) (hts (.fieldLink RX7 39 "FoodTruckRota" "output" "Ljava/lang/StringBuilder;") (by decide +kernel)) (fun _ h9 => h9) rfl dX7_renderTruck_54 ?_
          refine lv_bipush (v := 44) hx hb dX7_renderTruck_57 (by decide) ?_
          have hl5 : i_44 + 1 ≤ 4 := hlt_44
          have hcn := hok.cnt (by omega)
          refine va_callr (va_runV (As := [.int (44)]) (rest := []) ⟨hx, hb, hml, hown, hts⟩ (c_J4_append_cf468 l dC Z (fun j => (va_up ad 261 b_44) (260 + j)) k (o_44 9, o_44 7, g_44.2.1.1, g_44.2.1.2) 44 (tn (o_44 7)) H.size hcn.1 (by decide) (Nat.le_trans hcn.2.2.2 (by decide)) (hok.gc (m := (tn (o_44 7)) + 1) (by omega)) hok.2.2) (cwV 1 hts gX7_renderTruck_J4_append_cf468 rfl rfl rfl (by decide +kernel) ⟨Nat.le_of_ble_eq_true rfl, Nat.le_of_ble_eq_true rfl⟩) (ft_preVh' hE hS (fun x h => ft_fA_261 hbb (Nat.le_trans hsz hS.1) x h) (ft_R_B hP) (ft_D_261 hD) (Nat.le_refl _) (ci := 1) rfl (ft_get' (by decide) rfl)) rfl rfl hl.1 rfl (lv_room (Nat.le_of_ble_eq_true rfl)) dX7_renderTruck_59 ⟨(show 4 + 2 * i_44 + 1 ≤ 25 by omega), (show 456 + 300 * i_44 + 150 ≤ 3606 by omega)⟩) hS (fun x _ h => ft_fA_261 hbb (Nat.le_trans hsz hS.1) x h) (fun x h => ft_fA_261 hbb (Nat.le_trans hsz hS.1) x h) (fun v_59 ra t H1 locs1 ht hvm hw hB hz1 hk1 hS1 => ?_)
          obtain ⟨hra, hv1, hB⟩ := hB
          have hra : ra = ad 260 := hra
          subst hra
          rw [ht] at hB
          have hW := ft_grow_261 hP hD (fun x hx9 => Or.inr (Nat.le_trans (Nat.le_trans hsz hS.1) hx9)) hpm hv1 hk1 hB
          rw [hw, ft_upp_261] at hW
          have hbb := ft_bb_261 hbb (Nat.le_trans hsz hS.1) hv1
          clear hS
          have hS := hS1
          clear hS1
          obtain ⟨hP, hD⟩ := hW
          have hP : va_P dC vwCl (ft_WR (va_up ad 261 v_59.1) k Z q pm ((ft_oc261 o_44 g_44 44).1) ((ft_oc261 o_44 g_44 44).2)) H1 := hP
          have hD : va_D (ft_An 292 ad sz) (ft_WR (va_up ad 261 v_59.1) k Z q pm ((ft_oc261 o_44 g_44 44).1) ((ft_oc261 o_44 g_44 44).2)) := hD
          have hok : ft_ok261 ((ft_oc261 o_44 g_44 44).1) ((ft_oc261 o_44 g_44 44).2) (3 + 4 * i_44 + 1) := hok.c (x := 44) (by omega)
          generalize H1 = H at hP hS ⊢
          refine W.widen (k := 4 + 2 * i_44 + 1) (n := 456 + 300 * i_44 + 150) (Nat.le_refl _) (Nat.le_refl _) ?_
          refine lv_pop hx hb dX7_renderTruck_62 rfl ?_
          refine lv_aload_n hx hb dX7_renderTruck_63 rfl (lv_at hl 0 rfl) ?_
          refine va_get (D := dC) (ci := 9) (v := .ref (ad 260)) (C := RX7) (T := TX7) (N := 9) hx hb hts (by decide +kernel) hown hK.1 hP (253 + 0) (ft_get' (by decide) rfl) rfl 5 (by decide) (hts (.fieldLink RX7 39 "FoodTruckRota" "output" "Ljava/lang/StringBuilder;") (by decide +kernel)) (fun _ h9 => h9) rfl dX7_renderTruck_64 ?_
          refine lv_aload_n hx hb dX7_renderTruck_67 rfl (lv_at hl 2 rfl) ?_
          refine lv_iload_n hx hb dX7_renderTruck_68 rfl (lv_at hl 3 rfl) ?_
          have hl5 : i_44 + 1 ≤ 4 := hlt_44
          refine vp_callSi (va_Run.run (va_runV (As := [.int (y3_44)]) (rest := [.ref (ad 260)]) ⟨hx, hb, hml, hown, hts⟩ (c_X6_portionsOf l dC (ft_at (ft_sq ad 0) (tn x1)) k (q 0) (51 + 17 * (tn x1)) y3_44) (cwV 1 hts gX7_renderTruck_X6_portionsOf rfl rfl rfl (by decide +kernel) ⟨Nat.le_of_ble_eq_true rfl, Nat.le_of_ble_eq_true rfl⟩) (ft_preVc hK (ft_S_P (ft_sqs_261 hP (s := 0) (by decide)) (ft_tn h_13)) (ci := 8) rfl (ft_get' (by decide) rfl)) rfl rfl hl.1 rfl (lv_room (Nat.le_of_ble_eq_true rfl)) dX7_renderTruck_69 ⟨(show 4 + 2 * i_44 + 1 + 0 ≤ 25 by omega), (show 456 + 300 * i_44 + 150 + 0 ≤ 3606 by omega)⟩)) (fun z hz => ?_)
          subst hz
          have hl5 : i_44 + 1 ≤ 4 := hlt_44
          have hnn : ¬ (s_X6_portionsOf (q 0) (51 + 17 * (tn x1)) y3_44) < 0 := (hH y3_44).1
          have hdg : sb_dg (tn (s_X6_portionsOf (q 0) (51 + 17 * (tn x1)) y3_44)) ≤ 3 := (ft_sdg3 (hH y3_44).2)
          have hcn := hok.cnt (by omega)
          refine va_callr (va_runV (As := [.int ((s_X6_portionsOf (q 0) (51 + 17 * (tn x1)) y3_44))]) (rest := []) ⟨hx, hb, hml, hown, hts⟩ (c_J4_append_bf812 l dC Z (fun j => (va_up ad 261 v_59.1) (260 + j)) k (((ft_oc261 o_44 g_44 44).1) 9, ((ft_oc261 o_44 g_44 44).1) 7, ((ft_oc261 o_44 g_44 44).2).2.1.1, ((ft_oc261 o_44 g_44 44).2).2.1.2) (s_X6_portionsOf (q 0) (51 + 17 * (tn x1)) y3_44) (tn (((ft_oc261 o_44 g_44 44).1) 7)) H.size (tn (s_X6_portionsOf (q 0) (51 + 17 * (tn x1)) y3_44)) hcn.1 (ft_nat0 hnn) (ft_tn31 _) (by omega) (Nat.le_trans hcn.2.2.2 (by decide)) (hok.gc (m := (tn (((ft_oc261 o_44 g_44 44).1) 7)) + sb_dg (tn (s_X6_portionsOf (q 0) (51 + 17 * (tn x1)) y3_44))) (by omega)) hok.2.2) (cwV 1 hts gX7_renderTruck_J4_append_bf812 rfl rfl rfl (by decide +kernel) ⟨Nat.le_of_ble_eq_true rfl, Nat.le_of_ble_eq_true rfl⟩) (ft_preVh' hE hS (fun x h => ft_fA_261 hbb (Nat.le_trans hsz hS.1) x h) (ft_R_B hP) (ft_D_261 hD) (Nat.le_refl _) (ci := 1) rfl (ft_get' (by decide) rfl)) rfl rfl hl.1 rfl (lv_room (Nat.le_of_ble_eq_true rfl)) dX7_renderTruck_72 ⟨(show 4 + 2 * i_44 + 1 + 1 ≤ 25 by omega), (show 456 + 300 * i_44 + 150 + 150 ≤ 3606 by omega)⟩) hS (fun x _ h => ft_fA_261 hbb (Nat.le_trans hsz hS.1) x h) (fun x h => ft_fA_261 hbb (Nat.le_trans hsz hS.1) x h) (fun v_72 ra t H1 locs1 ht hvm hw hB hz1 hk1 hS1 => ?_)
          obtain ⟨hra, hv1, hB⟩ := hB
          have hra : ra = ad 260 := hra
          subst hra
          rw [ht] at hB
          have hW := ft_grow_261 hP hD (fun x hx9 => Or.inr (Nat.le_trans (Nat.le_trans hsz hS.1) hx9)) hpm hv1 hk1 hB
          rw [hw, ft_upp_261] at hW
          have hbb := ft_bb_261 hbb (Nat.le_trans hsz hS.1) hv1
          clear hS
          have hS := hS1
          clear hS1
          obtain ⟨hP, hD⟩ := hW
          have hP : va_P dC vwCl (ft_WR (va_up ad 261 v_72.1) k Z q pm ((ft_oi261 ((ft_oc261 o_44 g_44 44).1) ((ft_oc261 o_44 g_44 44).2) (s_X6_portionsOf (q 0) (51 + 17 * (tn x1)) y3_44)).1) ((ft_oi261 ((ft_oc261 o_44 g_44 44).1) ((ft_oc261 o_44 g_44 44).2) (s_X6_portionsOf (q 0) (51 + 17 * (tn x1)) y3_44)).2)) H1 := hP
          have hD : va_D (ft_An 292 ad sz) (ft_WR (va_up ad 261 v_72.1) k Z q pm ((ft_oi261 ((ft_oc261 o_44 g_44 44).1) ((ft_oc261 o_44 g_44 44).2) (s_X6_portionsOf (q 0) (51 + 17 * (tn x1)) y3_44)).1) ((ft_oi261 ((ft_oc261 o_44 g_44 44).1) ((ft_oc261 o_44 g_44 44).2) (s_X6_portionsOf (q 0) (51 + 17 * (tn x1)) y3_44)).2)) := hD
          have hok : ft_ok261 ((ft_oi261 ((ft_oc261 o_44 g_44 44).1) ((ft_oc261 o_44 g_44 44).2) (s_X6_portionsOf (q 0) (51 + 17 * (tn x1)) y3_44)).1) ((ft_oi261 ((ft_oc261 o_44 g_44 44).1) ((ft_oc261 o_44 g_44 44).2) (s_X6_portionsOf (q 0) (51 + 17 * (tn x1)) y3_44)).2) (3 + 4 * i_44 + 1 + 3) := hok.i (x := (s_X6_portionsOf (q 0) (51 + 17 * (tn x1)) y3_44)) hdg (by omega)
          generalize H1 = H at hP hS ⊢
          refine W.widen (k := 4 + 2 * i_44 + 1 + 1) (n := 456 + 300 * i_44 + 150 + 150) (Nat.le_refl _) (Nat.le_refl _) ?_
          refine lv_pop hx hb dX7_renderTruck_75 rfl ?_
          refine lv_iinc (v := y3_44 + 1) (lv' := [(3, .int (y3_44 + 1)), (0, .ref (ad 253)), (1, .int (x1)), (2, .ref (ft_at (ft_sq ad 0) (tn x1) 0))]) hx hb dX7_renderTruck_76 hl (k := 3) rfl rfl (by decide) rfl (fun ls hl => ?_)
          refine lv_goto (tgt := 44) hx hb dX7_renderTruck_79 (by decide) ?_
          refine W.widen (k := 4 + 2 * (i_44 + 1)) (n := 456 + 300 * (i_44 + 1)) (by omega) (by omega) ?_
          exact ih_44 (y3_44 + 1) (i_44 + 1) (by rw [hi_44, nI_1]) hlt_44 (by omega) v_72.1 ((ft_oi261 ((ft_oc261 o_44 g_44 44).1) ((ft_oc261 o_44 g_44 44).2) (s_X6_portionsOf (q 0) (51 + 17 * (tn x1)) y3_44)).1) ((ft_oi261 ((ft_oc261 o_44 g_44 44).1) ((ft_oc261 o_44 g_44 44).2) (s_X6_portionsOf (q 0) (51 + 17 * (tn x1)) y3_44)).2) _ _ hP hD hS hbb (hok.mono (by omega)) ls (lv_sub hl [1, 2, 3, 0] rfl) hsp
  refine W.widen (k := 4 + 2 * 0) (n := 456 + 300 * 0) (Nat.le_refl _) (Nat.le_refl _) ?_
  refine loop_44 _ (fun y3_44 i_44 hi_44 hm_44 b_44 o_44 g_44 H locs hP hD hS hbb hok ls hl hsp => ?_) (tn 4 + 1) 0 0 rfl (Nat.zero_le _) (by omega) v_38.1 ((ft_oc261 ((ft_oi261 ((ft_oc261 ((ft_oz261 o g).1) ((ft_oz261 o g).2) 116).1) ((ft_oc261 ((ft_oz261 o g).1) ((ft_oz261 o g).2) 116).2) x1).1) ((ft_oi261 ((ft_oc261 ((ft_oz261 o g).1) ((ft_oz261 o g).2) 116).1) ((ft_oc261 ((ft_oz261 o g).1) ((ft_oz261 o g).2) 116).2) x1).2) 58).1) ((ft_oc261 ((ft_oi261 ((ft_oc261 ((ft_oz261 o g).1) ((ft_oz261 o g).2) 116).1) ((ft_oc261 ((ft_oz261 o g).1) ((ft_oz261 o g).2) 116).2) x1).1) ((ft_oi261 ((ft_oc261 ((ft_oz261 o g).1) ((ft_oz261 o g).2) 116).1) ((ft_oc261 ((ft_oz261 o g).1) ((ft_oz261 o g).2) 116).2) x1).2) 58).2) _ _ hP hD hS hbb (hok.mono (by omega)) ls (lv_sub hl [2, 3, 1, 0] rfl) hsp
  have hm5 : i_44 ≤ 4 := hm_44
  refine W.widen (k := 12) (n := 1656) (by omega) (by omega) ?_
  have hok : ft_ok261 o_44 g_44 19 := hok.mono (by omega)
  refine lv_aload_n hx hb dX7_renderTruck_82 rfl (lv_at hl 0 rfl) ?_
  refine va_get (D := dC) (ci := 9) (v := .ref (ad 260)) (C := RX7) (T := TX7) (N := 9) hx hb hts (by decide +kernel) hown hK.1 hP (253 + 0) (ft_get' (by decide) rfl) rfl 5 (by decide) (hts (.fieldLink RX7 39 "FoodTruckRota" "output" "Ljava/lang/StringBuilder;") (by decide +kernel)) (fun _ h9 => h9) rfl dX7_renderTruck_83 ?_
  refine lv_bipush (v := 36) hx hb dX7_renderTruck_86 (by decide) ?_
  have hcn := hok.cnt (by omega)
  refine va_callr (va_runV (As := [.int (36)]) (rest := []) ⟨hx, hb, hml, hown, hts⟩ (c_J4_append_cf468 l dC Z (fun j => (va_up ad 261 b_44) (260 + j)) k (o_44 9, o_44 7, g_44.2.1.1, g_44.2.1.2) 36 (tn (o_44 7)) H.size hcn.1 (by decide) (Nat.le_trans hcn.2.2.2 (by decide)) (hok.gc (m := (tn (o_44 7)) + 1) (by omega)) hok.2.2) (cwV 1 hts gX7_renderTruck_J4_append_cf468 rfl rfl rfl (by decide +kernel) ⟨Nat.le_of_ble_eq_true rfl, Nat.le_of_ble_eq_true rfl⟩) (ft_preVh' hE hS (fun x h => ft_fA_261 hbb (Nat.le_trans hsz hS.1) x h) (ft_R_B hP) (ft_D_261 hD) (Nat.le_refl _) (ci := 1) rfl (ft_get' (by decide) rfl)) rfl rfl hl.1 rfl (lv_room (Nat.le_of_ble_eq_true rfl)) dX7_renderTruck_88 ⟨Nat.le_of_ble_eq_true rfl, Nat.le_of_ble_eq_true rfl⟩) hS (fun x _ h => ft_fA_261 hbb (Nat.le_trans hsz hS.1) x h) (fun x h => ft_fA_261 hbb (Nat.le_trans hsz hS.1) x h) (fun v_88 ra t H1 locs1 ht hvm hw hB hz1 hk1 hS1 => ?_)
  obtain ⟨hra, hv1, hB⟩ := hB
  have hra : ra = ad 260 := hra
  subst hra
  rw [ht] at hB
  have hW := ft_grow_261 hP hD (fun x hx9 => Or.inr (Nat.le_trans (Nat.le_trans hsz hS.1) hx9)) hpm hv1 hk1 hB
  rw [hw, ft_upp_261] at hW
  have hbb := ft_bb_261 hbb (Nat.le_trans hsz hS.1) hv1
  clear hS
  have hS := hS1
  clear hS1
  obtain ⟨hP, hD⟩ := hW
  have hP : va_P dC vwCl (ft_WR (va_up ad 261 v_88.1) k Z q pm ((ft_oc261 o_44 g_44 36).1) ((ft_oc261 o_44 g_44 36).2)) H1 := hP
  have hD : va_D (ft_An 292 ad sz) (ft_WR (va_up ad 261 v_88.1) k Z q pm ((ft_oc261 o_44 g_44 36).1) ((ft_oc261 o_44 g_44 36).2)) := hD
  have hok : ft_ok261 ((ft_oc261 o_44 g_44 36).1) ((ft_oc261 o_44 g_44 36).2) (20) := hok.c (x := 36) (by omega)
  generalize H1 = H at hP hS ⊢
  refine W.widen (k := 13) (n := 1806) (Nat.le_refl _) (Nat.le_refl _) ?_
  refine lv_aload_n hx hb dX7_renderTruck_91 rfl (lv_at hl 2 rfl) ?_
  refine va_getN (D := dC) (ci := 8) (v := .int (q 0 (51 + 17 * (tn x1) + 0))) (C := RX6) (T := TX6) (N := 6) hx hb hts (by decide +kernel) hown hK.1 (ft_S_P (ft_sqs_261 hP (s := 0) (by decide)) (ft_tn h_13)) 0 (ft_get' (by decide) rfl) rfl 4 (by decide) (ft_nl hK.2 5 rfl) (fun _ h9 => h9) rfl dX7_renderTruck_92 ?_
  have hnn : ¬ (q 0 (51 + 17 * (tn x1) + 0)) < 0 := hC
  have hdg : sb_dg (tn (q 0 (51 + 17 * (tn x1) + 0))) ≤ 10 := (sb_dg_in _).2
  have hcn := hok.cnt (by omega)
  refine va_callr (va_runV (As := [.int (q 0 (51 + 17 * (tn x1) + 0))]) (rest := []) ⟨hx, hb, hml, hown, hts⟩ (c_J4_append_bf812 l dC Z (fun j => (va_up ad 261 v_88.1) (260 + j)) k (((ft_oc261 o_44 g_44 36).1) 9, ((ft_oc261 o_44 g_44 36).1) 7, ((ft_oc261 o_44 g_44 36).2).2.1.1, ((ft_oc261 o_44 g_44 36).2).2.1.2) (q 0 (51 + 17 * (tn x1) + 0)) (tn (((ft_oc261 o_44 g_44 36).1) 7)) H.size (tn (q 0 (51 + 17 * (tn x1) + 0))) hcn.1 (ft_nat0 hnn) (ft_tn31 _) (by omega) (Nat.le_trans hcn.2.2.2 (by decide)) (hok.gc (m := (tn (((ft_oc261 o_44 g_44 36).1) 7)) + sb_dg (tn (q 0 (51 + 17 * (tn x1) + 0)))) (by omega)) hok.2.2) (cwV 1 hts gX7_renderTruck_J4_append_bf812 rfl rfl rfl (by decide +kernel) ⟨Nat.le_of_ble_eq_true rfl, Nat.le_of_ble_eq_true rfl⟩) (ft_preVh' hE hS (fun x h => ft_fA_261 hbb (Nat.le_trans hsz hS.1) x h) (ft_R_B hP) (ft_D_261 hD) (Nat.le_refl _) (ci := 1) rfl (ft_get' (by decide) rfl)) rfl rfl hl.1 rfl (lv_room (Nat.le_of_ble_eq_true rfl)) dX7_renderTruck_95 ⟨Nat.le_of_ble_eq_true rfl, Nat.le_of_ble_eq_true rfl⟩) hS (fun x _ h => ft_fA_261 hbb (Nat.le_trans hsz hS.1) x h) (fun x h => ft_fA_261 hbb (Nat.le_trans hsz hS.1) x h) (fun v_95 ra t H1 locs1 ht hvm hw hB hz1 hk1 hS1 => ?_)
  obtain ⟨hra, hv1, hB⟩ := hB
  have hra : ra = ad 260 := hra
  subst hra
  rw [ht] at hB
  have hW := ft_grow_261 hP hD (fun x hx9 => Or.inr (Nat.le_trans (Nat.le_trans hsz hS.1) hx9)) hpm hv1 hk1 hB
  rw [hw, ft_upp_261] at hW
  have hbb := ft_bb_261 hbb (Nat.le_trans hsz hS.1) hv1
  clear hS
  have hS := hS1
  clear hS1
  obtain ⟨hP, hD⟩ := hW
  have hP : va_P dC vwCl (ft_WR (va_up ad 261 v_95.1) k Z q pm ((ft_oi261 ((ft_oc261 o_44 g_44 36).1) ((ft_oc261 o_44 g_44 36).2) (q 0 (51 + 17 * (tn x1) + 0))).1) ((ft_oi261 ((ft_oc261 o_44 g_44 36).1) ((ft_oc261 o_44 g_44 36).2) (q 0 (51 + 17 * (tn x1) + 0))).2)) H1 := hP
  have hD : va_D (ft_An 292 ad sz) (ft_WR (va_up ad 261 v_95.1) k Z q pm ((ft_oi261 ((ft_oc261 o_44 g_44 36).1) ((ft_oc261 o_44 g_44 36).2) (q 0 (51 + 17 * (tn x1) + 0))).1) ((ft_oi261 ((ft_oc261 o_44 g_44 36).1) ((ft_oc261 o_44 g_44 36).2) (q 0 (51 + 17 * (tn x1) + 0))).2)) := hD
  have hok : ft_ok261 ((ft_oi261 ((ft_oc261 o_44 g_44 36).1) ((ft_oc261 o_44 g_44 36).2) (q 0 (51 + 17 * (tn x1) + 0))).1) ((ft_oi261 ((ft_oc261 o_44 g_44 36).1) ((ft_oc261 o_44 g_44 36).2) (q 0 (51 + 17 * (tn x1) + 0))).2) (30) := hok.i (x := (q 0 (51 + 17 * (tn x1) + 0))) hdg (by omega)
  generalize H1 = H at hP hS ⊢
  refine W.widen (k := 14) (n := 1956) (Nat.le_refl _) (Nat.le_refl _) ?_
  refine lv_pop hx hb dX7_renderTruck_98 rfl ?_
  refine lv_aload_n hx hb dX7_renderTruck_99 rfl (lv_at hl 0 rfl) ?_
  refine va_get (D := dC) (ci := 9) (v := .ref (ft_sq ad 0 0)) (C := RX7) (T := TX7) (N := 9) hx hb hts (by decide +kernel) hown hK.1 hP (253 + 0) (ft_get' (by decide) rfl) rfl 0 (by decide) (hts (.fieldLink RX7 12 "FoodTruckRota" "square" "LFoodTruckRota$Square;") (by decide +kernel)) (fun _ h9 => h9) rfl dX7_renderTruck_100 ?_
  refine lv_iload_n hx hb dX7_renderTruck_103 rfl (lv_at hl 1 rfl) ?_
  refine vp_callSi (va_Run.run (va_runV (As := [.int (x1)]) (rest := []) ⟨hx, hb, hml, hown, hts⟩ (c_X4_pitchToday l dC (ft_sq ad 0) k (q 0) x1) (cwV 1 hts gX7_renderTruck_X4_pitchToday rfl rfl rfl (by decide +kernel) ⟨Nat.le_of_ble_eq_true rfl, Nat.le_of_ble_eq_true rfl⟩) (ft_preVc hK (ft_sqs_261 hP (s := 0) (by decide)) (ci := 6) rfl (ft_get' (by decide) rfl)) rfl rfl hl.1 rfl (lv_room (Nat.le_of_ble_eq_true rfl)) dX7_renderTruck_104 ⟨Nat.le_of_ble_eq_true rfl, Nat.le_of_ble_eq_true rfl⟩)) (fun z hz => ?_)
  subst hz
  refine lv_istore_n (lv' := [(3, .int ((s_X4_pitchToday (q 0) x1))), (0, .ref (ad 253)), (1, .int (x1)), (2, .ref (ft_at (ft_sq ad 0) (tn x1) 0))]) hx hb dX7_renderTruck_107 rfl hl (by decide) rfl (fun ls hl => ?_)
  refine lv_iload_n hx hb dX7_renderTruck_108 rfl (lv_at hl 0 rfl) ?_
  refine lv_iconst (v := (-1)) hx hb dX7_renderTruck_109 (by decide) ?_
  refine lv_icmp_eq (tgt := 155) hx hb dX7_renderTruck_110 (by decide) (fun c_110 => ?_) (fun c_110 => ?_)
  · replace hsp := (if_pos c_110).symm.trans hsp
    refine lv_aload_n hx hb dX7_renderTruck_155 rfl (lv_at hl 1 rfl) ?_
    refine va_get (D := dC) (ci := 9) (v := .ref (ad 260)) (C := RX7) (T := TX7) (N := 9) hx hb hts (by decide +kernel) hown hK.1 hP (253 + 0) (ft_get' (by decide) rfl) rfl 5 (by decide) (hts (.fieldLink RX7 39 "FoodTruckRota" "output" "Ljava/lang/StringBuilder;") (by decide +kernel)) (fun _ h9 => h9) rfl dX7_renderTruck_156 ?_
    refine vp_callSi (va_Run.run (va_runV (As := []) (rest := []) ⟨hx, hb, hml, hown, hts⟩ (c_J4_length_8abf5 l dC (fun j => (va_up ad 261 v_95.1) (260 + j)) k (((ft_oi261 ((ft_oc261 o_44 g_44 36).1) ((ft_oc261 o_44 g_44 36).2) (q 0 (51 + 17 * (tn x1) + 0))).1) 9, ((ft_oi261 ((ft_oc261 o_44 g_44 36).1) ((ft_oc261 o_44 g_44 36).2) (q 0 (51 + 17 * (tn x1) + 0))).1) 7, ((ft_oi261 ((ft_oc261 o_44 g_44 36).1) ((ft_oc261 o_44 g_44 36).2) (q 0 (51 + 17 * (tn x1) + 0))).2).2.1.1, ((ft_oi261 ((ft_oc261 o_44 g_44 36).1) ((ft_oc261 o_44 g_44 36).2) (q 0 (51 + 17 * (tn x1) + 0))).2).2.1.2)) (cwV 0 hts gX7_renderTruck_J4_length_8abf5 rfl rfl rfl (by decide +kernel) ⟨Nat.le_of_ble_eq_true rfl, Nat.le_of_ble_eq_true rfl⟩) (ft_preVc hK (ft_R_B hP) (ci := 1) rfl (ft_get' (by decide) rfl)) rfl rfl hl.1 rfl (lv_room (Nat.le_of_ble_eq_true rfl)) dX7_renderTruck_159 ⟨Nat.le_of_ble_eq_true rfl, Nat.le_of_ble_eq_true rfl⟩)) (fun z hz => ?_)
    subst hz
    refine vx_ret ?_
    refine W.widen (k := 25) (n := 3606) (by omega) (by omega) ?_
    exact W.iret (v := (s_J4_length_8abf5 (((ft_oi261 ((ft_oc261 o_44 g_44 36).1) ((ft_oc261 o_44 g_44 36).2) (q 0 (51 + 17 * (tn x1) + 0))).1) 9, ((ft_oi261 ((ft_oc261 o_44 g_44 36).1) ((ft_oc261 o_44 g_44 36).2) (q 0 (51 + 17 * (tn x1) + 0))).1) 7, ((ft_oi261 ((ft_oc261 o_44 g_44 36).1) ((ft_oc261 o_44 g_44 36).2) (q 0 (51 + 17 * (tn x1) + 0))).2).2.1.1, ((ft_oi261 ((ft_oc261 o_44 g_44 36).1) ((ft_oc261 o_44 g_44 36).2) (q 0 (51 + 17 * (tn x1) + 0))).2).2.1.2))) hx hb hr (fun t ht hW => ⟨⟨(s_J4_length_8abf5 (((ft_oi261 ((ft_oc261 o_44 g_44 36).1) ((ft_oc261 o_44 g_44 36).2) (q 0 (51 + 17 * (tn x1) + 0))).1) 9, ((ft_oi261 ((ft_oc261 o_44 g_44 36).1) ((ft_oc261 o_44 g_44 36).2) (q 0 (51 + 17 * (tn x1) + 0))).1) 7, ((ft_oi261 ((ft_oc261 o_44 g_44 36).1) ((ft_oc261 o_44 g_44 36).2) (q 0 (51 + 17 * (tn x1) + 0))).2).2.1.1, ((ft_oi261 ((ft_oc261 o_44 g_44 36).1) ((ft_oc261 o_44 g_44 36).2) (q 0 (51 + 17 * (tn x1) + 0))).2).2.1.2)), (v_95.1, ((ft_oi261 ((ft_oc261 o_44 g_44 36).1) ((ft_oc261 o_44 g_44 36).2) (q 0 (51 + 17 * (tn x1) + 0))).1, (ft_oi261 ((ft_oc261 o_44 g_44 36).1) ((ft_oc261 o_44 g_44 36).2) (q 0 (51 + 17 * (tn x1) + 0))).2)), rfl, hsp, hbb, ft_heap ht hP⟩, hS.F ht⟩) hS.2.2 dX7_renderTruck_162
  · replace hsp := (if_neg c_110).symm.trans hsp
    refine lv_aload_n hx hb dX7_renderTruck_113 rfl (lv_at hl 1 rfl) ?_
    refine va_get (D := dC) (ci := 9) (v := .ref (ad 260)) (C := RX7) (T := TX7) (N := 9) hx hb hts (by decide +kernel) hown hK.1 hP (253 + 0) (ft_get' (by decide) rfl) rfl 5 (by decide) (hts (.fieldLink RX7 39 "FoodTruckRota" "output" "Ljava/lang/StringBuilder;") (by decide +kernel)) (fun _ h9 => h9) rfl dX7_renderTruck_114 ?_
    refine lv_bipush (v := 64) hx hb dX7_renderTruck_117 (by decide) ?_
    have hcn := hok.cnt (by omega)
    refine va_callr (va_runV (As := [.int (64)]) (rest := []) ⟨hx, hb, hml, hown, hts⟩ (c_J4_append_cf468 l dC Z (fun j => (va_up ad 261 v_95.1) (260 + j)) k (((ft_oi261 ((ft_oc261 o_44 g_44 36).1) ((ft_oc261 o_44 g_44 36).2) (q 0 (51 + 17 * (tn x1) + 0))).1) 9, ((ft_oi261 ((ft_oc261 o_44 g_44 36).1) ((ft_oc261 o_44 g_44 36).2) (q 0 (51 + 17 * (tn x1) + 0))).1) 7, ((ft_oi261 ((ft_oc261 o_44 g_44 36).1) ((ft_oc261 o_44 g_44 36).2) (q 0 (51 + 17 * (tn x1) + 0))).2).2.1.1, ((ft_oi261 ((ft_oc261 o_44 g_44 36).1) ((ft_oc261 o_44 g_44 36).2) (q 0 (51 + 17 * (tn x1) + 0))).2).2.1.2) 64 (tn (((ft_oi261 ((ft_oc261 o_44 g_44 36).1) ((ft_oc261 o_44 g_44 36).2) (q 0 (51 + 17 * (tn x1) + 0))).1) 7)) H.size hcn.1 (by decide) (Nat.le_trans hcn.2.2.2 (by decide)) (hok.gc (m := (tn (((ft_oi261 ((ft_oc261 o_44 g_44 36).1) ((ft_oc261 o_44 g_44 36).2) (q 0 (51 + 17 * (tn x1) + 0))).1) 7)) + 1) (by omega)) hok.2.2) (cwV 1 hts gX7_renderTruck_J4_append_cf468 rfl rfl rfl (by decide +kernel) ⟨Nat.le_of_ble_eq_true rfl, Nat.le_of_ble_eq_true rfl⟩) (ft_preVh' hE hS (fun x h => ft_fA_261 hbb (Nat.le_trans hsz hS.1) x h) (ft_R_B hP) (ft_D_261 hD) (Nat.le_refl _) (ci := 1) rfl (ft_get' (by decide) rfl)) rfl rfl hl.1 rfl (lv_room (Nat.le_of_ble_eq_true rfl)) dX7_renderTruck_119 ⟨Nat.le_of_ble_eq_true rfl, Nat.le_of_ble_eq_true rfl⟩) hS (fun x _ h => ft_fA_261 hbb (Nat.le_trans hsz hS.1) x h) (fun x h => ft_fA_261 hbb (Nat.le_trans hsz hS.1) x h) (fun v_119 ra t H1 locs1 ht hvm hw hB hz1 hk1 hS1 => ?_)
    obtain ⟨hra, hv1, hB⟩ := hB
    have hra : ra = ad 260 := hra
    subst hra
    rw [ht] at hB
    have hW := ft_grow_261 hP hD (fun x hx9 => Or.inr (Nat.le_trans (Nat.le_trans hsz hS.1) hx9)) hpm hv1 hk1 hB
    rw [hw, ft_upp_261] at hW
    have hbb := ft_bb_261 hbb (Nat.le_trans hsz hS.1) hv1
    clear hS
    have hS := hS1
    clear hS1
    obtain ⟨hP, hD⟩ := hW
    have hP : va_P dC vwCl (ft_WR (va_up ad 261 v_119.1) k Z q pm ((ft_oc261 ((ft_oi261 ((ft_oc261 o_44 g_44 36).1) ((ft_oc261 o_44 g_44 36).2) (q 0 (51 + 17 * (tn x1) + 0))).1) ((ft_oi261 ((ft_oc261 o_44 g_44 36).1) ((ft_oc261 o_44 g_44 36).2) (q 0 (51 + 17 * (tn x1) + 0))).2) 64).1) ((ft_oc261 ((ft_oi261 ((ft_oc261 o_44 g_44 36).1) ((ft_oc261 o_44 g_44 36).2) (q 0 (51 + 17 * (tn x1) + 0))).1) ((ft_oi261 ((ft_oc261 o_44 g_44 36).1) ((ft_oc261 o_44 g_44 36).2) (q 0 (51 + 17 * (tn x1) + 0))).2) 64).2)) H1 := hP
    have hD : va_D (ft_An 292 ad sz) (ft_WR (va_up ad 261 v_119.1) k Z q pm ((ft_oc261 ((ft_oi261 ((ft_oc261 o_44 g_44 36).1) ((ft_oc261 o_44 g_44 36).2) (q 0 (51 + 17 * (tn x1) + 0))).1) ((ft_oi261 ((ft_oc261 o_44 g_44 36).1) ((ft_oc261 o_44 g_44 36).2) (q 0 (51 + 17 * (tn x1) + 0))).2) 64).1) ((ft_oc261 ((ft_oi261 ((ft_oc261 o_44 g_44 36).1) ((ft_oc261 o_44 g_44 36).2) (q 0 (51 + 17 * (tn x1) + 0))).1) ((ft_oi261 ((ft_oc261 o_44 g_44 36).1) ((ft_oc261 o_44 g_44 36).2) (q 0 (51 + 17 * (tn x1) + 0))).2) 64).2)) := hD
    have hok : ft_ok261 ((ft_oc261 ((ft_oi261 ((ft_oc261 o_44 g_44 36).1) ((ft_oc261 o_44 g_44 36).2) (q 0 (51 + 17 * (tn x1) + 0))).1) ((ft_oi261 ((ft_oc261 o_44 g_44 36).1) ((ft_oc261 o_44 g_44 36).2) (q 0 (51 + 17 * (tn x1) + 0))).2) 64).1) ((ft_oc261 ((ft_oi261 ((ft_oc261 o_44 g_44 36).1) ((ft_oc261 o_44 g_44 36).2) (q 0 (51 + 17 * (tn x1) + 0))).1) ((ft_oi261 ((ft_oc261 o_44 g_44 36).1) ((ft_oc261 o_44 g_44 36).2) (q 0 (51 + 17 * (tn x1) + 0))).2) 64).2) (31) := hok.c (x := 64) (by omega)
    generalize H1 = H at hP hS ⊢
    refine W.widen (k := 15) (n := 2106) (Nat.le_refl _) (Nat.le_refl _) ?_
    refine lv_iload_n hx hb dX7_renderTruck_122 rfl (lv_at hl 0 rfl) ?_
    have hnn : ¬ (s_X4_pitchToday (q 0) x1) < 0 := (hp.resolve_left c_110).1
    have hdg : sb_dg (tn (s_X4_pitchToday (q 0) x1)) ≤ 1 := (ft_sdg1 (hp.resolve_left c_110).2)
    have hcn := hok.cnt (by omega)
    refine va_callr (va_runV (As := [.int ((s_X4_pitchToday (q 0) x1))]) (rest := []) ⟨hx, hb, hml, hown, hts⟩ (c_J4_append_bf812 l dC Z (fun j => (va_up ad 261 v_119.1) (260 + j)) k (((ft_oc261 ((ft_oi261 ((ft_oc261 o_44 g_44 36).1) ((ft_oc261 o_44 g_44 36).2) (q 0 (51 + 17 * (tn x1) + 0))).1) ((ft_oi261 ((ft_oc261 o_44 g_44 36).1) ((ft_oc261 o_44 g_44 36).2) (q 0 (51 + 17 * (tn x1) + 0))).2) 64).1) 9, ((ft_oc261 ((ft_oi261 ((ft_oc261 o_44 g_44 36).1) ((ft_oc261 o_44 g_44 36).2) (q 0 (51 + 17 * (tn x1) + 0))).1) ((ft_oi261 ((ft_oc261 o_44 g_44 36).1) ((ft_oc261 o_44 g_44 36).2) (q 0 (51 + 17 * (tn x1) + 0))).2) 64).1) 7, ((ft_oc261 ((ft_oi261 ((ft_oc261 o_44 g_44 36).1) ((ft_oc261 o_44 g_44 36).2) (q 0 (51 + 17 * (tn x1) + 0))).1) ((ft_oi261 ((ft_oc261 o_44 g_44 36).1) ((ft_oc261 o_44 g_44 36).2) (q 0 (51 + 17 * (tn x1) + 0))).2) 64).2).2.1.1, ((ft_oc261 ((ft_oi261 ((ft_oc261 o_44 g_44 36).1) ((ft_oc261 o_44 g_44 36).2) (q 0 (51 + 17 * (tn x1) + 0))).1) ((ft_oi261 ((ft_oc261 o_44 g_44 36).1) ((ft_oc261 o_44 g_44 36).2) (q 0 (51 + 17 * (tn x1) + 0))).2) 64).2).2.1.2) (s_X4_pitchToday (q 0) x1) (tn (((ft_oc261 ((ft_oi261 ((ft_oc261 o_44 g_44 36).1) ((ft_oc261 o_44 g_44 36).2) (q 0 (51 + 17 * (tn x1) + 0))).1) ((ft_oi261 ((ft_oc261 o_44 g_44 36).1) ((ft_oc261 o_44 g_44 36).2) (q 0 (51 + 17 * (tn x1) + 0))).2) 64).1) 7)) H.size (tn (s_X4_pitchToday (q 0) x1)) hcn.1 (ft_nat0 hnn) (ft_tn31 _) (by omega) (Nat.le_trans hcn.2.2.2 (by decide)) (hok.gc (m := (tn (((ft_oc261 ((ft_oi261 ((ft_oc261 o_44 g_44 36).1) ((ft_oc261 o_44 g_44 36).2) (q 0 (51 + 17 * (tn x1) + 0))).1) ((ft_oi261 ((ft_oc261 o_44 g_44 36).1) ((ft_oc261 o_44 g_44 36).2) (q 0 (51 + 17 * (tn x1) + 0))).2) 64).1) 7)) + sb_dg (tn (s_X4_pitchToday (q 0) x1))) (by omega)) hok.2.2) (cwV 1 hts gX7_renderTruck_J4_append_bf812 rfl rfl rfl (by decide +kernel) ⟨Nat.le_of_ble_eq_true rfl, Nat.le_of_ble_eq_true rfl⟩) (ft_preVh' hE hS (fun x h => ft_fA_261 hbb (Nat.le_trans hsz hS.1) x h) (ft_R_B hP) (ft_D_261 hD) (Nat.le_refl _) (ci := 1) rfl (ft_get' (by decide) rfl)) rfl rfl hl.1 rfl (lv_room (Nat.le_of_ble_eq_true rfl)) dX7_renderTruck_123 ⟨Nat.le_of_ble_eq_true rfl, Nat.le_of_ble_eq_true rfl⟩) hS (fun x _ h => ft_fA_261 hbb (Nat.le_trans hsz hS.1) x h) (fun x h => ft_fA_261 hbb (Nat.le_trans hsz hS.1) x h) (fun v_123 ra t H1 locs1 ht hvm hw hB hz1 hk1 hS1 => ?_)
    obtain ⟨hra, hv1, hB⟩ := hB
    have hra : ra = ad 260 := hra
    subst hra
    rw [ht] at hB
    have hW := ft_grow_261 hP hD (fun x hx9 => Or.inr (Nat.le_trans (Nat.le_trans hsz hS.1) hx9)) hpm hv1 hk1 hB
    rw [hw, ft_upp_261] at hW
    have hbb := ft_bb_261 hbb (Nat.le_trans hsz hS.1) hv1
    clear hS
    have hS := hS1
    clear hS1
    obtain ⟨hP, hD⟩ := hW
    have hP : va_P dC vwCl (ft_WR (va_up ad 261 v_123.1) k Z q pm ((ft_oi261 ((ft_oc261 ((ft_oi261 ((ft_oc261 o_44 g_44 36).1) ((ft_oc261 o_44 g_44 36).2) (q 0 (51 + 17 * (tn x1) + 0))).1) ((ft_oi261 ((ft_oc261 o_44 g_44 36).1) ((ft_oc261 o_44 g_44 36).2) (q 0 (51 + 17 * (tn x1) + 0))).2) 64).1) ((ft_oc261 ((ft_oi261 ((ft_oc261 o_44 g_44 36).1) ((ft_oc261 o_44 g_44 36).2) (q 0 (51 + 17 * (tn x1) + 0))).1) ((ft_oi261 ((ft_oc261 o_44 g_44 36).1) ((ft_oc261 o_44 g_44 36).2) (q 0 (51 + 17 * (tn x1) + 0))).2) 64).2) (s_X4_pitchToday (q 0) x1)).1) ((ft_oi261 ((ft_oc261 ((ft_oi261 ((ft_oc261 o_44 g_44 36).1) ((ft_oc261 o_44 g_44 36).2) (q 0 (51 + 17 * (tn x1) + 0))).1) ((ft_oi261 ((ft_oc261 o_44 g_44 36).1) ((ft_oc261 o_44 g_44 36).2) (q 0 (51 + 17 * (tn x1) + 0))).2) 64).1) ((ft_oc261 ((ft_oi261 ((ft_oc261 o_44 g_44 36).1) ((ft_oc261 o_44 g_44 36).2) (q 0 (51 + 17 * (tn x1) + 0))).1) ((ft_oi261 ((ft_oc261 o_44 g_44 36).1) ((ft_oc261 o_44 g_44 36).2) (q 0 (51 + 17 * (tn x1) + 0))).2) 64).2) (s_X4_pitchToday (q 0) x1)).2)) H1 := hP
    have hD : va_D (ft_An 292 ad sz) (ft_WR (va_up ad 261 v_123.1) k Z q pm ((ft_oi261 ((ft_oc261 ((ft_oi261 ((ft_oc261 o_44 g_44 36).1) ((ft_oc261 o_44 g_44 36).2) (q 0 (51 + 17 * (tn x1) + 0))).1) ((ft_oi261 ((ft_oc261 o_44 g_44 36).1) ((ft_oc261 o_44 g_44 36).2) (q 0 (51 + 17 * (tn x1) + 0))).2) 64).1) ((ft_oc261 ((ft_oi261 ((ft_oc261 o_44 g_44 36).1) ((ft_oc261 o_44 g_44 36).2) (q 0 (51 + 17 * (tn x1) + 0))).1) ((ft_oi261 ((ft_oc261 o_44 g_44 36).1) ((ft_oc261 o_44 g_44 36).2) (q 0 (51 + 17 * (tn x1) + 0))).2) 64).2) (s_X4_pitchToday (q 0) x1)).1) ((ft_oi261 ((ft_oc261 ((ft_oi261 ((ft_oc261 o_44 g_44 36).1) ((ft_oc261 o_44 g_44 36).2) (q 0 (51 + 17 * (tn x1) + 0))).1) ((ft_oi261 ((ft_oc261 o_44 g_44 36).1) ((ft_oc261 o_44 g_44 36).2) (q 0 (51 + 17 * (tn x1) + 0))).2) 64).1) ((ft_oc261 ((ft_oi261 ((ft_oc261 o_44 g_44 36).1) ((ft_oc261 o_44 g_44 36).2) (q 0 (51 + 17 * (tn x1) + 0))).1) ((ft_oi261 ((ft_oc261 o_44 g_44 36).1) ((ft_oc261 o_44 g_44 36).2) (q 0 (51 + 17 * (tn x1) + 0))).2) 64).2) (s_X4_pitchToday (q 0) x1)).2)) := hD
    have hok : ft_ok261 ((ft_oi261 ((ft_oc261 ((ft_oi261 ((ft_oc261 o_44 g_44 36).1) ((ft_oc261 o_44 g_44 36).2) (q 0 (51 + 17 * (tn x1) + 0))).1) ((ft_oi261 ((ft_oc261 o_44 g_44 36).1) ((ft_oc261 o_44 g_44 36).2) (q 0 (51 + 17 * (tn x1) + 0))).2) 64).1) ((ft_oc261 ((ft_oi261 ((ft_oc261 o_44 g_44 36).1) ((ft_oc261 o_44 g_44 36).2) (q 0 (51 + 17 * (tn x1) + 0))).1) ((ft_oi261 ((ft_oc261 o_44 g_44 36).1) ((ft_oc261 o_44 g_44 36).2) (q 0 (51 + 17 * (tn x1) + 0))).2) 64).2) (s_X4_pitchToday (q 0) x1)).1) ((ft_oi261 ((ft_oc261 ((ft_oi261 ((ft_oc261 o_44 g_44 36).1) ((ft_oc261 o_44 g_44 36).2) (q 0 (51 + 17 * (tn x1) + 0))).1) ((ft_oi261 ((ft_oc261 o_44 g_44 36).1) ((ft_oc261 o_44 g_44 36).2) (q 0 (51 + 17 * (tn x1) + 0))).2) 64).1) ((ft_oc261 ((ft_oi261 ((ft_oc261 o_44 g_44 36).1) ((ft_oc261 o_44 g_44 36).2) (q 0 (51 + 17 * (tn x1) + 0))).1) ((ft_oi261 ((ft_oc261 o_44 g_44 36).1) ((ft_oc261 o_44 g_44 36).2) (q 0 (51 + 17 * (tn x1) + 0))).2) 64).2) (s_X4_pitchToday (q 0) x1)).2) (32) := hok.i (x := (s_X4_pitchToday (q 0) x1)) hdg (by omega)
    generalize H1 = H at hP hS ⊢
    refine W.widen (k := 16) (n := 2256) (Nat.le_refl _) (Nat.le_refl _) ?_
    refine lv_pop hx hb dX7_renderTruck_126 rfl ?_
    refine lv_iconst (v := 0) hx hb dX7_renderTruck_127 (by decide) ?_
    refine lv_istore (lv' := [(4, .int (0)), (3, .int ((s_X4_pitchToday (q 0) x1))), (0, .ref (ad 253)), (1, .int (x1)), (2, .ref (ft_at (ft_sq ad 0) (tn x1) 0))]) hx hb dX7_renderTruck_128 hl (by decide) rfl (fun ls hl => ?_)
    have hbn_130 : tn (q 0 (51 + 17 * (tn x1) + 2)) ≤ 9 := hq
    have loop_130 : ∀ (K : Int32 → (Nat → Int32) → ft_G → (Except String Int32 × ((Nat → Int32) × ft_G))) (hKx : ∀ (y4_130 : Int32) (i_130 : Nat) (hi_130 : y4_130 = nI i_130) (hm_130 : i_130 ≤ tn (q 0 (51 + 17 * (tn x1) + 2))) (b_130 : Nat) (o_130 : Nat → Int32) (g_130 : ft_G) (H : Heap) (locs : List Loc) (hP : va_P dC vwCl (ft_WR (va_up ad 261 b_130) k Z q pm o_130 g_130) H) (hD : va_D (ft_An 292 ad sz) (ft_WR (va_up ad 261 b_130) k Z q pm o_130 g_130)) (hS : va_S (ft_An 292 ad sz) s.heap H locs) (hbb : b_130 = ad 261 ∨ sz ≤ b_130) (hok : ft_ok261 o_130 g_130 (32 + 1 * i_130)) (ls : Array Slot) (hl : lv_has ls 5 [(0, .ref (ad 253)), (1, .int (x1)), (2, .ref (ft_at (ft_sq ad 0) (tn x1) 0)), (4, .int (y4_130))]) (hsp : K y4_130 o_130 g_130 = s_X7_renderTruck q o g x1), W p l e (headSpec wsX7_renderTruck ({ frames := 7, cells := 25, slots := 3606, locals := 224 })).room s m ([.ref (ad 253), .int x1] : List Value).toArray below meth c H locs (16 + 1 * i_130) (2256 + 150 * i_130) (vx_MQ below (va_Qi (fun (z : Int32) (u : Nat × ((Nat → Int32) × ft_G)) => (.ok z, u.2) = s_X7_renderTruck q o g x1) (fun (u : Nat × ((Nat → Int32) × ft_G)) (t : State) => (u.1 = ad 261 ∨ sz ≤ u.1) ∧ va_P dC vwCl (ft_WR (va_up ad 261 u.1) k Z q pm u.2.1 u.2.2) t.heap) (ft_An 292 ad sz)) (vx_X (fun (_ : Nat × ((Nat → Int32) × ft_G)) => True) (fun (E : String) (u : Nat × ((Nat → Int32) × ft_G)) (t : State) => (.error E, u.2) = s_X7_renderTruck q o g x1 ∧ (u.1 = ad 261 ∨ sz ≤ u.1) ∧ va_P dC vwCl (ft_WR (va_up ad 261 u.1) k Z q pm u.2.1 u.2.2) t.heap) (ft_An 292 ad sz)) ([.ref (ad 253), .int x1] : List Value).toArray s 25 3606 (ft_An 292 ad sz)) (F0 m 155 ls [])) (n_130 : Nat), ∀ (y4_130 : Int32) (i_130 : Nat) (hi_130 : y4_130 = nI i_130) (hm_130 : i_130 ≤ tn (q 0 (51 + 17 * (tn x1) + 2))) (hn_130 : tn (q 0 (51 + 17 * (tn x1) + 2)) < n_130 + i_130) (b_130 : Nat) (o_130 : Nat → Int32) (g_130 : ft_G) (H : Heap) (locs : List Loc) (hP : va_P dC vwCl (ft_WR (va_up ad 261 b_130) k Z q pm o_130 g_130) H) (hD : va_D (ft_An 292 ad sz) (ft_WR (va_up ad 261 b_130) k Z q pm o_130 g_130)) (hS : va_S (ft_An 292 ad sz) s.heap H locs) (hbb : b_130 = ad 261 ∨ sz ≤ b_130) (hok : ft_ok261 o_130 g_130 (32 + 1 * i_130)) (ls : Array Slot) (hl : lv_has ls 5 [(0, .ref (ad 253)), (1, .int (x1)), (2, .ref (ft_at (ft_sq ad 0) (tn x1) 0)), (4, .int (y4_130))]) (hsp : s_X7_renderTruck_L130 q o g x1 K n_130 y4_130 o_130 g_130 = s_X7_renderTruck q o g x1), W p l e (headSpec wsX7_renderTruck ({ frames := 7, cells := 25, slots := 3606, locals := 224 })).room s m ([.ref (ad 253), .int x1] : List Value).toArray below meth c H locs (16 + 1 * i_130) (2256 + 150 * i_130) (vx_MQ below (va_Qi (fun (z : Int32) (u : Nat × ((Nat → Int32) × ft_G)) => (.ok z, u.2) = s_X7_renderTruck q o g x1) (fun (u : Nat × ((Nat → Int32) × ft_G)) (t : State) => (u.1 = ad 261 ∨ sz ≤ u.1) ∧ va_P dC vwCl (ft_WR (va_up ad 261 u.1) k Z q pm u.2.1 u.2.2) t.heap) (ft_An 292 ad sz)) (vx_X (fun (_ : Nat × ((Nat → Int32) × ft_G)) => True) (fun (E : String) (u : Nat × ((Nat → Int32) × ft_G)) (t : State) => (.error E, u.2) = s_X7_renderTruck q o g x1 ∧ (u.1 = ad 261 ∨ sz ≤ u.1) ∧ va_P dC vwCl (ft_WR (va_up ad 261 u.1) k Z q pm u.2.1 u.2.2) t.heap) (ft_An 292 ad sz)) ([.ref (ad 253), .int x1] : List Value).toArray s 25 3606 (ft_An 292 ad sz)) (F0 m 130 ls []) := by
      intro K hKx n_130
      induction n_130 with
      | zero => intro y4_130 i_130 hi_130 hm_130 hn_130; exact absurd hn_130 (by omega)
      | succ n ih_130 =>
        intro y4_130 i_130 hi_130 hm_130 hn_130 b_130 o_130 g_130 H locs hP hD hS hbb hok ls hl hsp
        rw [s_X7_renderTruck_L130] at hsp
        have hbn := hbn_130
        refine lv_iload hx hb dX7_renderTruck_130 (lv_at hl 3 rfl) ?_
        refine lv_aload_n hx hb dX7_renderTruck_132 rfl (lv_at hl 2 rfl) ?_
        refine va_getN (D := dC) (ci := 8) (v := .int (q 0 (51 + 17 * (tn x1) + 2))) (C := RX6) (T := TX6) (N := 6) hx hb hts (by decide +kernel) hown hK.1 (ft_S_P (ft_sqs_261 hP (s := 0) (by decide)) (ft_tn h_13)) 0 (ft_get' (by decide) rfl) rfl 2 (by decide) (ft_nl hK.2 1 rfl) (fun _ h9 => h9) rfl dX7_renderTruck_133 ?_
        refine lv_icmp_ge (tgt := 155) hx hb dX7_renderTruck_136 (by decide) (fun c_136 => ?_) (fun c_136 => ?_)
        · replace hsp := (if_pos c_136).symm.trans hsp
          exact hKx y4_130 i_130 hi_130 hm_130 b_130 o_130 g_130 _ _ hP hD hS hbb hok ls (lv_sub hl [0, 1, 2, 3] rfl) hsp
        · replace hsp := (if_neg c_136).symm.trans hsp
          have hlt_130 := ft_step hi_130 hm_130 c_136
          refine lv_aload_n hx hb dX7_renderTruck_139 rfl (lv_at hl 0 rfl) ?_
          refine va_get (D := dC) (ci := 9) (v := .ref (ad 260)) (C := RX7) (T := TX7) (N := 9) hx hb hts (by decide +kernel) hown hK.1 hP (253 + 0) (ft_get' (by decide) rfl) rfl 5 (by decide) (hts (.fieldLink RX7 39 "FoodTruckRota" "output" "Ljava/lang/StringBuilder;") (by decide +kernel)) (fun _ h9 => h9) rfl dX7_renderTruck_140 ?_
          refine lv_bipush (v := 113) hx hb dX7_renderTruck_143 (by decide) ?_
          have hl5 : i_130 + 1 ≤ 9 := Nat.le_trans hlt_130 hbn_130
          have hcn := hok.cnt (by omega)
          refine va_callr (va_runV (As := [.int (113)]) (rest := []) ⟨hx, hb, hml, hown, hts⟩ (c_J4_append_cf468 l dC Z (fun j => (va_up ad 261 b_130) (260 + j)) k (o_130 9, o_130 7, g_130.2.1.1, g_130.2.1.2) 113 (tn (o_130 7)) H.size hcn.1 (by decide) (Nat.le_trans hcn.2.2.2 (by decide)) (hok.gc (m := (tn (o_130 7)) + 1) (by omega)) hok.2.2) (cwV 1 hts gX7_renderTruck_J4_append_cf468 rfl rfl rfl (by decide +kernel) ⟨Nat.le_of_ble_eq_true rfl, Nat.le_of_ble_eq_true rfl⟩) (ft_preVh' hE hS (fun x h => ft_fA_261 hbb (Nat.le_trans hsz hS.1) x h) (ft_R_B hP) (ft_D_261 hD) (Nat.le_refl _) (ci := 1) rfl (ft_get' (by decide) rfl)) rfl rfl hl.1 rfl (lv_room (Nat.le_of_ble_eq_true rfl)) dX7_renderTruck_145 ⟨(show 16 + 1 * i_130 + 1 ≤ 25 by omega), (show 2256 + 150 * i_130 + 150 ≤ 3606 by omega)⟩) hS (fun x _ h => ft_fA_261 hbb (Nat.le_trans hsz hS.1) x h) (fun x h => ft_fA_261 hbb (Nat.le_trans hsz hS.1) x h) (fun v_145 ra t H1 locs1 ht hvm hw hB hz1 hk1 hS1 => ?_)
          obtain ⟨hra, hv1, hB⟩ := hB
          have hra : ra = ad 260 := hra
          subst hra
          rw [ht] at hB
          have hW := ft_grow_261 hP hD (fun x hx9 => Or.inr (Nat.le_trans (Nat.le_trans hsz hS.1) hx9)) hpm hv1 hk1 hB
          rw [hw, ft_upp_261] at hW
          have hbb := ft_bb_261 hbb (Nat.le_trans hsz hS.1) hv1
          clear hS
          have hS := hS1
          clear hS1
          obtain ⟨hP, hD⟩ := hW
          have hP : va_P dC vwCl (ft_WR (va_up ad 261 v_145.1) k Z q pm ((ft_oc261 o_130 g_130 113).1) ((ft_oc261 o_130 g_130 113).2)) H1 := hP
          have hD : va_D (ft_An 292 ad sz) (ft_WR (va_up ad 261 v_145.1) k Z q pm ((ft_oc261 o_130 g_130 113).1) ((ft_oc261 o_130 g_130 113).2)) := hD
          have hok : ft_ok261 ((ft_oc261 o_130 g_130 113).1) ((ft_oc261 o_130 g_130 113).2) (32 + 1 * i_130 + 1) := hok.c (x := 113) (by omega)
          generalize H1 = H at hP hS ⊢
          refine W.widen (k := 16 + 1 * i_130 + 1) (n := 2256 + 150 * i_130 + 150) (Nat.le_refl _) (Nat.le_refl _) ?_
          refine lv_pop hx hb dX7_renderTruck_148 rfl ?_
          refine lv_iinc (v := y4_130 + 1) (lv' := [(4, .int (y4_130 + 1)), (0, .ref (ad 253)), (1, .int (x1)), (2, .ref (ft_at (ft_sq ad 0) (tn x1) 0))]) hx hb dX7_renderTruck_149 hl (k := 3) rfl rfl (by decide) rfl (fun ls hl => ?_)
          refine lv_goto (tgt := 130) hx hb dX7_renderTruck_152 (by decide) ?_
          refine W.widen (k := 16 + 1 * (i_130 + 1)) (n := 2256 + 150 * (i_130 + 1)) (by omega) (by omega) ?_
          exact ih_130 (y4_130 + 1) (i_130 + 1) (by rw [hi_130, nI_1]) hlt_130 (by omega) v_145.1 ((ft_oc261 o_130 g_130 113).1) ((ft_oc261 o_130 g_130 113).2) _ _ hP hD hS hbb (hok.mono (by omega)) ls (lv_sub hl [1, 2, 3, 0] rfl) hsp
    refine W.widen (k := 16 + 1 * 0) (n := 2256 + 150 * 0) (Nat.le_refl _) (Nat.le_refl _) ?_
    refine loop_130 _ (fun y4_130 i_130 hi_130 hm_130 b_130 o_130 g_130 H locs hP hD hS hbb hok ls hl hsp => ?_) (tn (q 0 (51 + 17 * (tn x1) + 2)) + 1) 0 0 rfl (Nat.zero_le _) (by omega) v_123.1 ((ft_oi261 ((ft_oc261 ((ft_oi261 ((ft_oc261 o_44 g_44 36).1) ((ft_oc261 o_44 g_44 36).2) (q 0 (51 + 17 * (tn x1) + 0))).1) ((ft_oi261 ((ft_oc261 o_44 g_44 36).1) ((ft_oc261 o_44 g_44 36).2) (q 0 (51 + 17 * (tn x1) + 0))).2) 64).1) ((ft_oc261 ((ft_oi261 ((ft_oc261 o_44 g_44 36).1) ((ft_oc261 o_44 g_44 36).2) (q 0 (51 + 17 * (tn x1) + 0))).1) ((ft_oi261 ((ft_oc261 o_44 g_44 36).1) ((ft_oc261 o_44 g_44 36).2) (q 0 (51 + 17 * (tn x1) + 0))).2) 64).2) (s_X4_pitchToday (q 0) x1)).1) ((ft_oi261 ((ft_oc261 ((ft_oi261 ((ft_oc261 o_44 g_44 36).1) ((ft_oc261 o_44 g_44 36).2) (q 0 (51 + 17 * (tn x1) + 0))).1) ((ft_oi261 ((ft_oc261 o_44 g_44 36).1) ((ft_oc261 o_44 g_44 36).2) (q 0 (51 + 17 * (tn x1) + 0))).2) 64).1) ((ft_oc261 ((ft_oi261 ((ft_oc261 o_44 g_44 36).1) ((ft_oc261 o_44 g_44 36).2) (q 0 (51 + 17 * (tn x1) + 0))).1) ((ft_oi261 ((ft_oc261 o_44 g_44 36).1) ((ft_oc261 o_44 g_44 36).2) (q 0 (51 + 17 * (tn x1) + 0))).2) 64).2) (s_X4_pitchToday (q 0) x1)).2) _ _ hP hD hS hbb (hok.mono (by omega)) ls (lv_sub hl [2, 3, 4, 0] rfl) hsp
    have hm5 : i_130 ≤ 9 := Nat.le_trans hm_130 hbn_130
    refine W.widen (k := 25) (n := 3606) (by omega) (by omega) ?_
    have hok : ft_ok261 o_130 g_130 41 := hok.mono (by omega)
    refine lv_aload_n hx hb dX7_renderTruck_155 rfl (lv_at hl 0 rfl) ?_
    refine va_get (D := dC) (ci := 9) (v := .ref (ad 260)) (C := RX7) (T := TX7) (N := 9) hx hb hts (by decide +kernel) hown hK.1 hP (253 + 0) (ft_get' (by decide) rfl) rfl 5 (by decide) (hts (.fieldLink RX7 39 "FoodTruckRota" "output" "Ljava/lang/StringBuilder;") (by decide +kernel)) (fun _ h9 => h9) rfl dX7_renderTruck_156 ?_
    refine vp_callSi (va_Run.run (va_runV (As := []) (rest := []) ⟨hx, hb, hml, hown, hts⟩ (c_J4_length_8abf5 l dC (fun j => (va_up ad 261 b_130) (260 + j)) k (o_130 9, o_130 7, g_130.2.1.1, g_130.2.1.2)) (cwV 0 hts gX7_renderTruck_J4_length_8abf5 rfl rfl rfl (by decide +kernel) ⟨Nat.le_of_ble_eq_true rfl, Nat.le_of_ble_eq_true rfl⟩) (ft_preVc hK (ft_R_B hP) (ci := 1) rfl (ft_get' (by decide) rfl)) rfl rfl hl.1 rfl (lv_room (Nat.le_of_ble_eq_true rfl)) dX7_renderTruck_159 ⟨Nat.le_of_ble_eq_true rfl, Nat.le_of_ble_eq_true rfl⟩)) (fun z hz => ?_)
    subst hz
    refine vx_ret ?_
    refine W.widen (k := 25) (n := 3606) (by omega) (by omega) ?_
    exact W.iret (v := (s_J4_length_8abf5 (o_130 9, o_130 7, g_130.2.1.1, g_130.2.1.2))) hx hb hr (fun t ht hW => ⟨⟨(s_J4_length_8abf5 (o_130 9, o_130 7, g_130.2.1.1, g_130.2.1.2)), (b_130, (o_130, g_130)), rfl, hsp, hbb, ft_heap ht hP⟩, hS.F ht⟩) hS.2.2 dX7_renderTruck_162

def s_X7_type (q : Nat → Nat → Int32) (o : Nat → Int32) (g : ft_G) (x1 : Int32) : Except String Int32 × ((Nat → Int32) × ft_G) := if x1 < 32 then ((.error "java/lang/IllegalArgumentException", (o, g))) else (if x1 ≤ 126 then (if (s_J4_length_8abf5 (o 8, o 6, g.1.1, g.1.2)) < 60 then ((.ok (s_J4_length_8abf5 (((ft_oc259 o g x1).1) 8, ((ft_oc259 o g x1).1) 6, ((ft_oc259 o g x1).2).1.1, ((ft_oc259 o g x1).2).1.2)), ((ft_oc259 o g x1).1, (ft_oc259 o g x1).2))) else ((.error "java/lang/IllegalStateException", (o, g)))) else ((.error "java/lang/IllegalArgumentException", (o, g))))
set_option maxHeartbeats 4000000 in
set_option maxRecDepth 100000 in
theorem c_X7_type (l : Launch) (hl0 : l.stackTraces = false) (dC : va_G) (Z : Nat → Nat → Nat) (ad : Nat → Nat) (k : Nat → ClassId) (q : Nat → Nat → Int32) (pm : Nat → Nat) (o : Nat → Int32) (g : ft_G) (x1 : Int32) (sz : Nat) (hpm : ∀ i, i < 8 → pm i < 8) (hok : ft_ok259 o g 60) : vx_Met l yX7_type wsX7_type ({ frames := 6, cells := 1, slots := 150, locals := 222 }) (ft_Ph dC k Z (ft_An 292 ad sz) [.ref (ad 253), .int x1] (ft_WR ad k Z q pm o g) sz) (va_Qi (fun (z : Int32) (u : Nat × ((Nat → Int32) × ft_G)) => (.ok z, u.2) = s_X7_type q o g x1) (fun (u : Nat × ((Nat → Int32) × ft_G)) (t : State) => (u.1 = ad 259 ∨ sz ≤ u.1) ∧ va_P dC vwCl (ft_WR (va_up ad 259 u.1) k Z q pm u.2.1 u.2.2) t.heap) (ft_An 292 ad sz)) (vx_X (fun (_ : Nat × ((Nat → Int32) × ft_G)) => True) (fun (E : String) (u : Nat × ((Nat → Int32) × ft_G)) (t : State) => (.error E, u.2) = s_X7_type q o g x1 ∧ (u.1 = ad 259 ∨ sz ≤ u.1) ∧ va_P dC vwCl (ft_WR (va_up ad 259 u.1) k Z q pm u.2.1 u.2.2) t.heap) (ft_An 292 ad sz)) 1 150 (ft_An 292 ad sz) := by
  refine vx_ofW (cc := cX7_type) (maxL := 2) (ret := (some .int)) (by decide) rfl ?_
  intro p e s m args below meth c s₁ B hml hnt hv
  obtain ⟨hargs, hP0, hE, hD0, hsz⟩ := hv
  have hK := hE.1
  subst hargs
  have hx := B.exec
  have hb := B.bytes
  have hr := B.returns
  have hts := atoms_spec (ws := wsX7_type) B.pre
  have hown : s.vm.findClass RX7 = some m.cls := findClass_of_methodNamed B.named
  have hlocks := B.notSynchronized
  have hD1 : va_D (ft_An 292 ad sz) (ft_WR ad k Z q pm o g) := (ft_D_self hD0).weaken (fun _ _ _ h => Or.inl h)
  obtain ⟨b, hbb, hP, hD⟩ : ∃ b, (b = ad 259 ∨ sz ≤ b) ∧ va_P dC vwCl (ft_WR (va_up ad 259 b) k Z q pm o g) s.heap ∧ va_D (ft_An 292 ad sz) (ft_WR (va_up ad 259 b) k Z q pm o g) := ⟨ad 259, Or.inl rfl, by rw [ft_up_259]; exact hP0, by rw [ft_up_259]; exact hD1⟩
  have hS : va_S (ft_An 292 ad sz) s.heap s.heap [] := va_S.rf
  have hl := lv_entry ([.ref (ad 253), .int x1]) (n := 2) (Nat.le_of_ble_eq_true rfl)
  rw [lg_entry_eq]
  generalize (lg_sl ([.ref (ad 253), .int x1]) ++ List.replicate (2 - (lg_sl ([.ref (ad 253), .int x1])).length) Slot.unset).toArray = ls at hl ⊢
  have hl : lv_has ls 2 [(0, .ref (ad 253)), (1, .int (x1))] := hl
  have hsp := (s_X7_type.eq_1 q o g x1).symm
  refine lv_iload_n hx hb dX7_type_0 rfl (lv_at hl 1 rfl) ?_
  refine lv_bipush (v := 32) hx hb dX7_type_1 (by decide) ?_
  refine lv_icmp_lt (tgt := 12) hx hb dX7_type_3 (by decide) (fun c_3 => ?_) (fun c_3 => ?_)
  · replace hsp := (if_pos c_3).symm.trans hsp
    obtain ⟨sa, hsa⟩ := hE.2.1.2.1 (RX7, 239, "the character code is not between 32 and 126") (List.mem_of_getElem? (i := 10) rfl)
    exact vx_throwS (text := "the character code is not between 32 and 126") (names := ["java/lang/RuntimeException", "java/lang/Exception"]) hx hb hl0 hown (by decide +kernel) (by decide +kernel) (hts (.classLink RX7 156 "java/lang/IllegalArgumentException") (by decide +kernel)) (hts (.initialized "java/lang/IllegalArgumentException") (by decide +kernel)) hsa (vx_hat (fun w h => hts w (List.mem_cons_of_mem _ (List.mem_append_left _ (List.mem_append_right _ h)))) (by decide +kernel) (ft_xw hE "java/lang/IllegalArgumentException" (by decide +kernel))) (by decide +kernel) hE.2.2.us hE.2.2.ss hS (hl.1.trans hml.symm) dX7_type_12 dX7_type_15 dX7_type_16 dX7_type_18 dX7_type_21 (fun x hx9 => (hnt x hx9).elim) (Nat.le_of_ble_eq_true rfl) (Nat.le_of_ble_eq_true rfl) (Nat.le_of_ble_eq_true rfl) (Nat.le_of_ble_eq_true rfl) hlocks (fun t _ h1 h2 => ⟨(b, (o, g)), trivial, ⟨hsp, hbb, ft_heap2 hP h2⟩, ft_Fa hS h1 h2⟩) hS.2.2 (by decide) (by decide)
  · replace hsp := (if_neg c_3).symm.trans hsp
    refine lv_iload_n hx hb dX7_type_6 rfl (lv_at hl 1 rfl) ?_
    refine lv_bipush (v := 126) hx hb dX7_type_7 (by decide) ?_
    refine lv_icmp_le (tgt := 22) hx hb dX7_type_9 (by decide) (fun c_9 => ?_) (fun c_9 => ?_)
    · replace hsp := (if_pos c_9).symm.trans hsp
      refine lv_aload_n hx hb dX7_type_22 rfl (lv_at hl 0 rfl) ?_
      refine va_get (D := dC) (ci := 9) (v := .ref (ad 256)) (C := RX7) (T := TX7) (N := 9) hx hb hts (by decide +kernel) hown hK.1 hP (253 + 0) (ft_get' (by decide) rfl) rfl 4 (by decide) (hts (.fieldLink RX7 32 "FoodTruckRota" "script" "LFoodTruckRota$Script;") (by decide +kernel)) (fun _ h9 => h9) rfl dX7_type_23 ?_
      refine va_getN (D := dC) (ci := 5) (v := .ref (ad 258)) (C := RX3) (T := TX3) (N := 4) hx hb hts (by decide +kernel) hown hK.1 hP (253 + 3) (ft_get' (by decide) rfl) rfl 0 (by decide) (ft_nl hK.2 24 rfl) (fun _ h9 => h9) rfl dX7_type_26 ?_
      refine vp_callSi (va_Run.run (va_runV (As := []) (rest := []) ⟨hx, hb, hml, hown, hts⟩ (c_J4_length_8abf5 l dC (fun j => (va_up ad 259 b) (258 + j)) k (o 8, o 6, g.1.1, g.1.2)) (cwV 0 hts gX7_type_J4_length_8abf5 rfl rfl rfl (by decide +kernel) ⟨Nat.le_of_ble_eq_true rfl, Nat.le_of_ble_eq_true rfl⟩) (ft_preVc hK (ft_R_B1 hP) (ci := 1) rfl (ft_get' (by decide) rfl)) rfl rfl hl.1 rfl (lv_room (Nat.le_of_ble_eq_true rfl)) dX7_type_29 ⟨Nat.le_of_ble_eq_true rfl, Nat.le_of_ble_eq_true rfl⟩)) (fun z hz => ?_)
      subst hz
      refine lv_bipush (v := 60) hx hb dX7_type_32 (by decide) ?_
      refine lv_icmp_lt (tgt := 47) hx hb dX7_type_34 (by decide) (fun c_34 => ?_) (fun c_34 => ?_)
      · replace hsp := (if_pos c_34).symm.trans hsp
        refine lv_aload_n hx hb dX7_type_47 rfl (lv_at hl 0 rfl) ?_
        refine va_get (D := dC) (ci := 9) (v := .ref (ad 256)) (C := RX7) (T := TX7) (N := 9) hx hb hts (by decide +kernel) hown hK.1 hP (253 + 0) (ft_get' (by decide) rfl) rfl 4 (by decide) (hts (.fieldLink RX7 32 "FoodTruckRota" "script" "LFoodTruckRota$Script;") (by decide +kernel)) (fun _ h9 => h9) rfl dX7_type_48 ?_
        refine va_getN (D := dC) (ci := 5) (v := .ref (ad 258)) (C := RX3) (T := TX3) (N := 4) hx hb hts (by decide +kernel) hown hK.1 hP (253 + 3) (ft_get' (by decide) rfl) rfl 0 (by decide) (ft_nl hK.2 24 rfl) (fun _ h9 => h9) rfl dX7_type_51 ?_
        refine lv_iload_n hx hb dX7_type_54 rfl (lv_at hl 1 rfl) ?_
        have hcn := hok.cnt (by omega)
        refine va_callr (va_runV (As := [.int (x1)]) (rest := []) ⟨hx, hb, hml, hown, hts⟩ (c_J4_append_cf468 l dC Z (fun j => (va_up ad 259 b) (258 + j)) k (o 8, o 6, g.1.1, g.1.2) x1 (tn (o 6)) s.heap.size hcn.1 (ft_lat c_9) (Nat.le_trans hcn.2.2.2 (by decide)) (hok.gc (m := (tn (o 6)) + 1) (by omega)) hok.2.2) (cwV 1 hts gX7_type_J4_append_cf468 rfl rfl rfl (by decide +kernel) ⟨Nat.le_of_ble_eq_true rfl, Nat.le_of_ble_eq_true rfl⟩) (ft_preVh' hE hS (fun x h => ft_fA_259 hbb (Nat.le_trans hsz hS.1) x h) (ft_R_B1 hP) (ft_D_259 hD) (Nat.le_refl _) (ci := 1) rfl (ft_get' (by decide) rfl)) rfl rfl hl.1 rfl (lv_room (Nat.le_of_ble_eq_true rfl)) dX7_type_55 ⟨Nat.le_of_ble_eq_true rfl, Nat.le_of_ble_eq_true rfl⟩) hS (fun x _ h => ft_fA_259 hbb (Nat.le_trans hsz hS.1) x h) (fun x h => ft_fA_259 hbb (Nat.le_trans hsz hS.1) x h) (fun v_55 ra t H1 locs1 ht hvm hw hB hz1 hk1 hS1 => ?_)
        obtain ⟨hra, hv1, hB⟩ := hB
        have hra : ra = ad 258 := hra
        subst hra
        rw [ht] at hB
        have hW := ft_grow_259 hP hD (fun x hx9 => Or.inr (Nat.le_trans (Nat.le_trans hsz hS.1) hx9)) hpm hv1 hk1 hB
        rw [hw, ft_upp_259] at hW
        have hbb := ft_bb_259 hbb (Nat.le_trans hsz hS.1) hv1
        clear hS
        have hS := hS1
        clear hS1
        obtain ⟨hP, hD⟩ := hW
        have hP : va_P dC vwCl (ft_WR (va_up ad 259 v_55.1) k Z q pm ((ft_oc259 o g x1).1) ((ft_oc259 o g x1).2)) H1 := hP
        have hD : va_D (ft_An 292 ad sz) (ft_WR (va_up ad 259 v_55.1) k Z q pm ((ft_oc259 o g x1).1) ((ft_oc259 o g x1).2)) := hD
        have hok : ft_ok259 ((ft_oc259 o g x1).1) ((ft_oc259 o g x1).2) (61) := hok.c (x := x1) (by omega)
        generalize H1 = H at hP hS ⊢
        refine W.widen (k := 1) (n := 150) (Nat.le_refl _) (Nat.le_refl _) ?_
        refine lv_pop hx hb dX7_type_58 rfl ?_
        refine lv_aload_n hx hb dX7_type_59 rfl (lv_at hl 0 rfl) ?_
        refine va_get (D := dC) (ci := 9) (v := .ref (ad 256)) (C := RX7) (T := TX7) (N := 9) hx hb hts (by decide +kernel) hown hK.1 hP (253 + 0) (ft_get' (by decide) rfl) rfl 4 (by decide) (hts (.fieldLink RX7 32 "FoodTruckRota" "script" "LFoodTruckRota$Script;") (by decide +kernel)) (fun _ h9 => h9) rfl dX7_type_60 ?_
        refine va_getN (D := dC) (ci := 5) (v := .ref (ad 258)) (C := RX3) (T := TX3) (N := 4) hx hb hts (by decide +kernel) hown hK.1 hP (253 + 3) (ft_get' (by decide) rfl) rfl 0 (by decide) (ft_nl hK.2 24 rfl) (fun _ h9 => h9) rfl dX7_type_63 ?_
        refine vp_callSi (va_Run.run (va_runV (As := []) (rest := []) ⟨hx, hb, hml, hown, hts⟩ (c_J4_length_8abf5 l dC (fun j => (va_up ad 259 v_55.1) (258 + j)) k (((ft_oc259 o g x1).1) 8, ((ft_oc259 o g x1).1) 6, ((ft_oc259 o g x1).2).1.1, ((ft_oc259 o g x1).2).1.2)) (cwV 0 hts gX7_type_J4_length_8abf5 rfl rfl rfl (by decide +kernel) ⟨Nat.le_of_ble_eq_true rfl, Nat.le_of_ble_eq_true rfl⟩) (ft_preVc hK (ft_R_B1 hP) (ci := 1) rfl (ft_get' (by decide) rfl)) rfl rfl hl.1 rfl (lv_room (Nat.le_of_ble_eq_true rfl)) dX7_type_66 ⟨Nat.le_of_ble_eq_true rfl, Nat.le_of_ble_eq_true rfl⟩)) (fun z hz => ?_)
        subst hz
        refine vx_ret ?_
        refine W.widen (k := 1) (n := 150) (by omega) (by omega) ?_
        exact W.iret (v := (s_J4_length_8abf5 (((ft_oc259 o g x1).1) 8, ((ft_oc259 o g x1).1) 6, ((ft_oc259 o g x1).2).1.1, ((ft_oc259 o g x1).2).1.2))) hx hb hr (fun t ht hW => ⟨⟨(s_J4_length_8abf5 (((ft_oc259 o g x1).1) 8, ((ft_oc259 o g x1).1) 6, ((ft_oc259 o g x1).2).1.1, ((ft_oc259 o g x1).2).1.2)), (v_55.1, ((ft_oc259 o g x1).1, (ft_oc259 o g x1).2)), rfl, hsp, hbb, ft_heap ht hP⟩, hS.F ht⟩) hS.2.2 dX7_type_69
      · replace hsp := (if_neg c_34).symm.trans hsp
        obtain ⟨sa, hsa⟩ := hE.2.1.2.1 (RX7, 246, "the script buffer is full") (List.mem_of_getElem? (i := 11) rfl)
        exact vx_throwS (text := "the script buffer is full") (names := ["java/lang/RuntimeException", "java/lang/Exception"]) hx hb hl0 hown (by decide +kernel) (by decide +kernel) (hts (.classLink RX7 244 "java/lang/IllegalStateException") (by decide +kernel)) (hts (.initialized "java/lang/IllegalStateException") (by decide +kernel)) hsa (vx_hat (fun w h => hts w (List.mem_cons_of_mem _ (List.mem_append_right _ h))) (by decide +kernel) (ft_xw hE "java/lang/IllegalStateException" (by decide +kernel))) (by decide +kernel) hE.2.2.us hE.2.2.ss hS (hl.1.trans hml.symm) dX7_type_37 dX7_type_40 dX7_type_41 dX7_type_43 dX7_type_46 (fun x hx9 => (hnt x hx9).elim) (Nat.le_of_ble_eq_true rfl) (Nat.le_of_ble_eq_true rfl) (Nat.le_of_ble_eq_true rfl) (Nat.le_of_ble_eq_true rfl) hlocks (fun t _ h1 h2 => ⟨(b, (o, g)), trivial, ⟨hsp, hbb, ft_heap2 hP h2⟩, ft_Fa hS h1 h2⟩) hS.2.2 (by decide) (by decide)
    · replace hsp := (if_neg c_9).symm.trans hsp
      obtain ⟨sa, hsa⟩ := hE.2.1.2.1 (RX7, 239, "the character code is not between 32 and 126") (List.mem_of_getElem? (i := 10) rfl)
      exact vx_throwS (text := "the character code is not between 32 and 126") (names := ["java/lang/RuntimeException", "java/lang/Exception"]) hx hb hl0 hown (by decide +kernel) (by decide +kernel) (hts (.classLink RX7 156 "java/lang/IllegalArgumentException") (by decide +kernel)) (hts (.initialized "java/lang/IllegalArgumentException") (by decide +kernel)) hsa (vx_hat (fun w h => hts w (List.mem_cons_of_mem _ (List.mem_append_left _ (List.mem_append_right _ h)))) (by decide +kernel) (ft_xw hE "java/lang/IllegalArgumentException" (by decide +kernel))) (by decide +kernel) hE.2.2.us hE.2.2.ss hS (hl.1.trans hml.symm) dX7_type_12 dX7_type_15 dX7_type_16 dX7_type_18 dX7_type_21 (fun x hx9 => (hnt x hx9).elim) (Nat.le_of_ble_eq_true rfl) (Nat.le_of_ble_eq_true rfl) (Nat.le_of_ble_eq_true rfl) (Nat.le_of_ble_eq_true rfl) hlocks (fun t _ h1 h2 => ⟨(b, (o, g)), trivial, ⟨hsp, hbb, ft_heap2 hP h2⟩, ft_Fa hS h1 h2⟩) hS.2.2 (by decide) (by decide)
