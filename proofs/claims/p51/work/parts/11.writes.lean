theorem ft_pm_up {pm : Nat → Nat} {i j : Nat} (hp : ∀ i, i < 8 → pm i < 8) (hj : j < 8) : ∀ x, x < 8 → va_up pm i (pm j) x < 8 := by
  intro x hx
  by_cases h : x = i
  · subst h; rw [va_up_self]; exact hp j hj
  · rw [va_up_ne _ _ h]; exact hp x hx
theorem ft_pm_up2 {pm : Nat → Nat} {i n : Nat} (hp : ∀ i, i < 8 → pm i < 8) (hn : n < 8) : ∀ x, x < 8 → va_up pm i n x < 8 := by
  intro x hx
  by_cases h : x = i
  · subst h; rw [va_up_self]; exact hn
  · rw [va_up_ne _ _ h]; exact hp x hx

def s_X2_forgetOldest_L9 (q : Nat → Nat → Int32) (pm : Nat → Nat) (o : Nat → Int32)  (K : Int32 → (Nat → Nat) → (ft_St)) : Nat → Int32 → (Nat → Nat) → (ft_St)
  | 0, y2_9, pm_9 => K y2_9 pm_9
  | n + 1, y2_9, pm_9 => if 8 ≤ y2_9 then (K y2_9 pm_9) else (s_X2_forgetOldest_L9 q pm o K n (y2_9 + 1) (va_up pm_9 (tn (y2_9 - 1)) (pm_9 (tn y2_9))))
def s_X2_forgetOldest (q : Nat → Nat → Int32) (pm : Nat → Nat) (o : Nat → Int32)  : ft_St := s_X2_forgetOldest_L9 q pm o (fun y2_9 pm_9 => (q, va_up pm_9 (tn 7) (pm (tn 0)), va_up o 3 7)) (tn 8 + 1) 1 pm
set_option maxHeartbeats 4000000 in
set_option maxRecDepth 100000 in
theorem c_X2_forgetOldest (l : Launch) (dC : va_G) (Z : Nat → Nat → Nat) (ad : Nat → Nat) (k : Nat → ClassId) (q : Nat → Nat → Int32) (pm : Nat → Nat) (o : Nat → Int32) (g : ft_G)  (hpm : ∀ i, i < 8 → pm i < 8) : Met l yX2_forgetOldest wsX2_forgetOldest ({ frames := 0, cells := 0, slots := 0, locals := 0 }) (ft_Pf dC k Z (ft_A 292 ad) [.ref (ad 254)] (ft_WR ad k Z q pm o g)) (va_Qv (fun (u : ft_St) => u = s_X2_forgetOldest q pm o) (fun (u : ft_St) (t : State) => va_P dC vwCl (ft_WR ad k Z u.1 u.2.1 u.2.2 g) t.heap) (ft_A 292 ad)) 0 0 (ft_A 292 ad) := by
  refine Met.ofW (cc := cX2_forgetOldest) (maxL := 3) (ret := none) (by decide) rfl ?_
  intro p e s m args below meth c s₁ B hml hv
  obtain ⟨hargs, hP, hE, hD0⟩ := hv
  have hK := hE.1
  subst hargs
  have hx := B.exec
  have hb := B.bytes
  have hr := B.returns
  have hts := atoms_spec (ws := wsX2_forgetOldest) B.pre
  have hown : s.vm.findClass RX2 = some m.cls := findClass_of_methodNamed B.named
  have hlocks := B.notSynchronized
  have hD := ft_D_self hD0
  have hS : va_S (ft_A 292 ad) s.heap s.heap [] := va_S.rf
  have hl := lv_entry ([.ref (ad 254)]) (n := 3) (Nat.le_of_ble_eq_true rfl)
  rw [lg_entry_eq]
  generalize (lg_sl ([.ref (ad 254)]) ++ List.replicate (3 - (lg_sl ([.ref (ad 254)])).length) Slot.unset).toArray = ls at hl ⊢
  have hl : lv_has ls 3 [(0, .ref (ad 254))] := hl
  have hsp := (s_X2_forgetOldest.eq_1 q pm o ).symm
  refine lv_aload_n hx hb dX2_forgetOldest_0 rfl (lv_at hl 0 rfl) ?_
  refine va_get (D := dC) (ci := 4) (v := .ref (ad 255)) (C := RX2) (T := TX2) (N := 2) hx hb hts (by decide +kernel) hown hK.1 hP (253 + 1) (ft_get' (by decide) rfl) rfl 0 (by decide) (hts (.fieldLink RX2 11 "FoodTruckRota$History" "earlier" "[LFoodTruckRota$Square;") (by decide +kernel)) (fun _ h9 => h9) rfl dX2_forgetOldest_1 ?_
  refine lv_iconst (v := 0) hx hb dX2_forgetOldest_4 (by decide) ?_
  have h_5 : vp_in 0 8 := by exact pk_in 0 8 (by decide)
  refine va_aldq (C := RX4) hx hb hK.1 hP (253 + 2) 2 (ft_get' (by decide) rfl) rfl h_5 dX2_forgetOldest_5 ?_
  refine W.eq (g2 := F0 m 6 ls [.ref (ft_sq ad (3 + pm (tn 0)) 0)]) rfl ?_
  refine lv_astore_n (lv' := [(1, .ref (ft_sq ad (3 + pm (tn 0)) 0)), (0, .ref (ad 254))]) hx hb dX2_forgetOldest_6 rfl hl (by decide) rfl (fun ls hl => ?_)
  refine lv_iconst (v := 1) hx hb dX2_forgetOldest_7 (by decide) ?_
  refine lv_istore_n (lv' := [(2, .int (1)), (1, .ref (ft_sq ad (3 + pm (tn 0)) 0)), (0, .ref (ad 254))]) hx hb dX2_forgetOldest_8 rfl hl (by decide) rfl (fun ls hl => ?_)
  have loop_9 : ∀ (K : Int32 → (Nat → Nat) → (ft_St)) (hKx : ∀ (y2_9 : Int32) (i_9 : Nat) (hi_9 : y2_9 = nI i_9) (hm_9 : i_9 ≤ tn 8) (pm_9 : Nat → Nat) (H : Heap) (locs : List Loc) (hP : va_P dC vwCl (ft_WR ad k Z q pm_9 o g) H) (hD : va_D (ft_A 292 ad) (ft_WR ad k Z q pm_9 o g)) (hS : va_S (ft_A 292 ad) s.heap H locs) (h1_9 : 1 ≤ i_9) (hp_9 : ∀ i, i < 8 → pm_9 i < 8) (ls : Array Slot) (hl : lv_has ls 3 [(2, .int (y2_9)), (1, .ref (ft_sq ad (3 + pm (tn 0)) 0)), (0, .ref (ad 254))]) (hsp : K y2_9 pm_9 = s_X2_forgetOldest q pm o), W p l e (headSpec wsX2_forgetOldest ({ frames := 0, cells := 0, slots := 0, locals := 0 })).room s m ([.ref (ad 254)] : List Value).toArray below meth c H locs 0 0 (MQ below (va_Qv (fun (u : ft_St) => u = s_X2_forgetOldest q pm o) (fun (u : ft_St) (t : State) => va_P dC vwCl (ft_WR ad k Z u.1 u.2.1 u.2.2 g) t.heap) (ft_A 292 ad)) ([.ref (ad 254)] : List Value).toArray s 0 0 (ft_A 292 ad)) (F0 m 35 ls [])) (n_9 : Nat), ∀ (y2_9 : Int32) (i_9 : Nat) (hi_9 : y2_9 = nI i_9) (hm_9 : i_9 ≤ tn 8) (hn_9 : tn 8 < n_9 + i_9) (pm_9 : Nat → Nat) (H : Heap) (locs : List Loc) (hP : va_P dC vwCl (ft_WR ad k Z q pm_9 o g) H) (hD : va_D (ft_A 292 ad) (ft_WR ad k Z q pm_9 o g)) (hS : va_S (ft_A 292 ad) s.heap H locs) (h1_9 : 1 ≤ i_9) (hp_9 : ∀ i, i < 8 → pm_9 i < 8) (ls : Array Slot) (hl : lv_has ls 3 [(2, .int (y2_9)), (1, .ref (ft_sq ad (3 + pm (tn 0)) 0)), (0, .ref (ad 254))]) (hsp : s_X2_forgetOldest_L9 q pm o K n_9 y2_9 pm_9 = s_X2_forgetOldest q pm o), W p l e (headSpec wsX2_forgetOldest ({ frames := 0, cells := 0, slots := 0, locals := 0 })).room s m ([.ref (ad 254)] : List Value).toArray below meth c H locs 0 0 (MQ below (va_Qv (fun (u : ft_St) => u = s_X2_forgetOldest q pm o) (fun (u : ft_St) (t : State) => va_P dC vwCl (ft_WR ad k Z u.1 u.2.1 u.2.2 g) t.heap) (ft_A 292 ad)) ([.ref (ad 254)] : List Value).toArray s 0 0 (ft_A 292 ad)) (F0 m 9 ls []) := by
    intro K hKx n_9
    induction n_9 with
    | zero => intro y2_9 i_9 hi_9 hm_9 hn_9; exact absurd hn_9 (by omega)
    | succ n ih_9 =>
      intro y2_9 i_9 hi_9 hm_9 hn_9 pm_9 H locs hP hD hS h1_9 hp_9 ls hl hsp
      rw [s_X2_forgetOldest_L9] at hsp
      refine lv_iload_n hx hb dX2_forgetOldest_9 rfl (lv_at hl 0 rfl) ?_
      refine lv_bipush (v := 8) hx hb dX2_forgetOldest_10 (by decide) ?_
      refine lv_icmp_ge (tgt := 35) hx hb dX2_forgetOldest_12 (by decide) (fun c_12 => ?_) (fun c_12 => ?_)
      · replace hsp := (if_pos c_12).symm.trans hsp
        exact hKx y2_9 i_9 hi_9 hm_9 pm_9 _ _ hP hD hS h1_9 hp_9 ls (lv_sub hl [0, 1, 2] rfl) hsp
      · replace hsp := (if_neg c_12).symm.trans hsp
        have hlt_9 := ft_step hi_9 hm_9 c_12
        refine lv_aload_n hx hb dX2_forgetOldest_15 rfl (lv_at hl 2 rfl) ?_
        refine va_get (D := dC) (ci := 4) (v := .ref (ad 255)) (C := RX2) (T := TX2) (N := 2) hx hb hts (by decide +kernel) hown hK.1 hP (253 + 1) (ft_get' (by decide) rfl) rfl 0 (by decide) (hts (.fieldLink RX2 11 "FoodTruckRota$History" "earlier" "[LFoodTruckRota$Square;") (by decide +kernel)) (fun _ h9 => h9) rfl dX2_forgetOldest_16 ?_
        refine lv_iload_n hx hb dX2_forgetOldest_19 rfl (lv_at hl 0 rfl) ?_
        refine lv_iconst (v := 1) hx hb dX2_forgetOldest_20 (by decide) ?_
        refine lv_isub hx hb dX2_forgetOldest_21 ?_
        refine lv_aload_n hx hb dX2_forgetOldest_22 rfl (lv_at hl 2 rfl) ?_
        refine va_get (D := dC) (ci := 4) (v := .ref (ad 255)) (C := RX2) (T := TX2) (N := 2) hx hb hts (by decide +kernel) hown hK.1 hP (253 + 1) (ft_get' (by decide) rfl) rfl 0 (by decide) (hts (.fieldLink RX2 11 "FoodTruckRota$History" "earlier" "[LFoodTruckRota$Square;") (by decide +kernel)) (fun _ h9 => h9) rfl dX2_forgetOldest_23 ?_
        refine lv_iload_n hx hb dX2_forgetOldest_26 rfl (lv_at hl 0 rfl) ?_
        have h_27 : vp_in y2_9 8 := by exact ft_vin hi_9 hlt_9
        refine va_aldq (C := RX4) hx hb hK.1 hP (253 + 2) 2 (ft_get' (by decide) rfl) rfl h_27 dX2_forgetOldest_27 ?_
        refine W.eq (g2 := F0 m 28 ls [.ref (ft_sq ad (3 + pm_9 (tn y2_9)) 0), .int (y2_9 - 1), .ref (ad 255)]) rfl ?_
        have h_28 : vp_in (y2_9 - 1) 8 := by exact ft_vin1 hi_9 h1_9 hlt_9
        refine va_astq (ci := 6) (r := (RX4, TX4, 12)) hx hb hK.1 hP hD hS (253 + 2) 2 (23 * (3 + pm_9 (tn y2_9)) + 0) (ft_get' (by decide) rfl) rfl (ft_get' (by have : (3 + pm_9 (tn y2_9)) < 11 := (by have := hp_9 _ (ft_tn h_27); omega); omega) (ft_R_at (s := (3 + pm_9 (tn y2_9))) (by have := hp_9 _ (ft_tn h_27); omega) (by decide))) rfl h_28 dX2_forgetOldest_28 (fun H locs hP hD hS => ?_)
        have hP := ft_cast hP ft_R_e
        have hD := ft_castD hD ft_R_e
        have hP : va_P dC vwCl (ft_WR ad k Z q (va_up pm_9 (tn (y2_9 - 1)) (pm_9 (tn y2_9))) o g) H := hP
        have hD : va_D (ft_A 292 ad) (ft_WR ad k Z q (va_up pm_9 (tn (y2_9 - 1)) (pm_9 (tn y2_9))) o g) := hD
        refine lv_iinc (v := y2_9 + 1) (lv' := [(2, .int (y2_9 + 1)), (1, .ref (ft_sq ad (3 + pm (tn 0)) 0)), (0, .ref (ad 254))]) hx hb dX2_forgetOldest_29 hl (k := 0) rfl rfl (by decide) rfl (fun ls hl => ?_)
        refine lv_goto (tgt := 9) hx hb dX2_forgetOldest_32 (by decide) ?_
        exact ih_9 (y2_9 + 1) (i_9 + 1) (by rw [hi_9, nI_1]) hlt_9 (by omega) (va_up pm_9 (tn (y2_9 - 1)) (pm_9 (tn y2_9))) _ _ hP hD hS (by omega) (ft_pm_up hp_9 (ft_tn h_27)) ls (lv_sub hl [0, 1, 2] rfl) hsp
  refine loop_9 _ (fun y2_9 i_9 hi_9 hm_9 pm_9 H locs hP hD hS h1_9 hp_9 ls hl hsp => ?_) (tn 8 + 1) 1 1 rfl (by decide) (by omega) pm _ _ hP hD hS (by decide) hpm ls (lv_sub hl [0, 1, 2] rfl) hsp
  refine lv_aload_n hx hb dX2_forgetOldest_35 rfl (lv_at hl 2 rfl) ?_
  refine va_get (D := dC) (ci := 4) (v := .ref (ad 255)) (C := RX2) (T := TX2) (N := 2) hx hb hts (by decide +kernel) hown hK.1 hP (253 + 1) (ft_get' (by decide) rfl) rfl 0 (by decide) (hts (.fieldLink RX2 11 "FoodTruckRota$History" "earlier" "[LFoodTruckRota$Square;") (by decide +kernel)) (fun _ h9 => h9) rfl dX2_forgetOldest_36 ?_
  refine lv_bipush (v := 7) hx hb dX2_forgetOldest_39 (by decide) ?_
  refine lv_aload_n hx hb dX2_forgetOldest_41 rfl (lv_at hl 1 rfl) ?_
  have h_42 : vp_in 7 8 := by exact pk_in 7 8 (by decide)
  refine va_astq (ci := 6) (r := (RX4, TX4, 12)) hx hb hK.1 hP hD hS (253 + 2) 2 (23 * (3 + pm (tn 0)) + 0) (ft_get' (by decide) rfl) rfl (ft_get' (by have : (3 + pm (tn 0)) < 11 := (by have := hpm _ (ft_tn h_5); omega); omega) (ft_R_at (s := (3 + pm (tn 0))) (by have := hpm _ (ft_tn h_5); omega) (by decide))) rfl h_42 dX2_forgetOldest_42 (fun H locs hP hD hS => ?_)
  have hP := ft_cast hP ft_R_e
  have hD := ft_castD hD ft_R_e
  have hP : va_P dC vwCl (ft_WR ad k Z q (va_up pm_9 (tn 7) (pm (tn 0))) o g) H := hP
  have hD : va_D (ft_A 292 ad) (ft_WR ad k Z q (va_up pm_9 (tn 7) (pm (tn 0))) o g) := hD
  refine lv_aload_n hx hb dX2_forgetOldest_43 rfl (lv_at hl 2 rfl) ?_
  refine lv_bipush (v := 7) hx hb dX2_forgetOldest_44 (by decide) ?_
  refine va_put (D := dC) (ci := 4) (v := .int (7)) (ty := .int) (C := RX2) (T := TX2) (N := 2) hx hb hts (by decide +kernel) tyX2 tyX2_ok nmX2 hown hK.1 hP hD hS (253 + 1) (ft_get' (by decide) rfl) rfl 1 (by decide) (hts (.fieldLink RX2 18 "FoodTruckRota$History" "kept" "I") (by decide +kernel)) (fun _ h9 => h9) rfl (by decide +kernel) rfl rfl (Nat.le_of_ble_eq_true rfl) dX2_forgetOldest_46 (fun H locs hP hD hS => ?_)
  have hP := ft_cast hP (ft_R_p3)
  have hD := ft_castD hD (ft_R_p3)
  have hP : va_P dC vwCl (ft_WR ad k Z q (va_up pm_9 (tn 7) (pm (tn 0))) (va_up o 3 7) g) H := hP
  have hD : va_D (ft_A 292 ad) (ft_WR ad k Z q (va_up pm_9 (tn 7) (pm (tn 0))) (va_up o 3 7) g) := hD
  exact W.vret hx hb hr (fun t ht hW => ⟨⟨(q, va_up pm_9 (tn 7) (pm (tn 0)), va_up o 3 7), rfl, hsp, ft_heap ht hP⟩, hS.F ht⟩) hS.2.2 dX2_forgetOldest_49

theorem pm_forget_loop (q : Nat → Nat → Int32) (pm : Nat → Nat) (o : Nat → Int32) (K : Int32 → (Nat → Nat) → ft_St) (hK : ∀ y p, (∀ i, i < 8 → p i < 8) → ∀ i, i < 8 → (K y p).2.1 i < 8) : ∀ (n : Nat) (y : Int32) (p : Nat → Nat), (∀ i, i < 8 → p i < 8) → ∀ i, i < 8 → (s_X2_forgetOldest_L9 q pm o K n y p).2.1 i < 8 := by
  intro n
  induction n with
  | zero => intro y p hp i hi; rw [s_X2_forgetOldest_L9]; exact hK y p hp i hi
  | succ n ih =>
    intro y p hp i hi
    rw [s_X2_forgetOldest_L9]
    by_cases h : (8 : Int32) ≤ y
    · rw [if_pos h]; exact hK y p hp i hi
    · rw [if_neg h]
      refine ih _ _ (ft_pm_up hp ?_) i hi
      have h1 : tn y = y.toInt.toNat := rfl
      rw [Int32.le_iff_toInt_le] at h
      have h2 : (8 : Int32).toInt = 8 := rfl
      rw [h1]
      omega
theorem pm_X2_forgetOldest (q : Nat → Nat → Int32) (pm : Nat → Nat) (o : Nat → Int32) (hp : ∀ i, i < 8 → pm i < 8) : ∀ i, i < 8 → (s_X2_forgetOldest q pm o).2.1 i < 8 := by
  unfold s_X2_forgetOldest
  exact pm_forget_loop q pm o _ (fun y p h => ft_pm_up2 h (hp _ (by decide))) _ _ _ hp

def s_X2_keep (q : Nat → Nat → Int32) (pm : Nat → Nat) (o : Nat → Int32)  : ft_St := if (o 3) < 8 then (if (o 3) < 0 then ((q, pm, o)) else (if 8 ≤ (o 3) then ((q, pm, o)) else ((va_up q (3 + pm (tn (o 3))) (s_X4_copyFrom (q (3 + pm (tn (o 3)))) (q 0)), pm, va_up o 3 ((o 3) + 1))))) else (if (((s_X2_forgetOldest q pm o).2.2) 3) < 0 then (((s_X2_forgetOldest q pm o).1, (s_X2_forgetOldest q pm o).2.1, (s_X2_forgetOldest q pm o).2.2)) else (if 8 ≤ (((s_X2_forgetOldest q pm o).2.2) 3) then (((s_X2_forgetOldest q pm o).1, (s_X2_forgetOldest q pm o).2.1, (s_X2_forgetOldest q pm o).2.2)) else ((va_up ((s_X2_forgetOldest q pm o).1) (3 + ((s_X2_forgetOldest q pm o).2.1) (tn (((s_X2_forgetOldest q pm o).2.2) 3))) (s_X4_copyFrom (((s_X2_forgetOldest q pm o).1) (3 + ((s_X2_forgetOldest q pm o).2.1) (tn (((s_X2_forgetOldest q pm o).2.2) 3)))) (((s_X2_forgetOldest q pm o).1) 0)), (s_X2_forgetOldest q pm o).2.1, va_up ((s_X2_forgetOldest q pm o).2.2) 3 ((((s_X2_forgetOldest q pm o).2.2) 3) + 1)))))
set_option maxHeartbeats 4000000 in
set_option maxRecDepth 100000 in
theorem c_X2_keep (l : Launch) (dC : va_G) (Z : Nat → Nat → Nat) (ad : Nat → Nat) (k : Nat → ClassId) (q : Nat → Nat → Int32) (pm : Nat → Nat) (o : Nat → Int32) (g : ft_G)  (hpm : ∀ i, i < 8 → pm i < 8) : Met l yX2_keep wsX2_keep ({ frames := 3, cells := 0, slots := 0, locals := 103 }) (ft_Pf dC k Z (ft_A 292 ad) [.ref (ad 254), .ref (ft_sq ad 0 0)] (ft_WR ad k Z q pm o g)) (va_Qv (fun (u : ft_St) => u = s_X2_keep q pm o) (fun (u : ft_St) (t : State) => va_P dC vwCl (ft_WR ad k Z u.1 u.2.1 u.2.2 g) t.heap) (ft_A 292 ad)) 0 0 (ft_A 292 ad) := by
  refine Met.ofW (cc := cX2_keep) (maxL := 2) (ret := none) (by decide) rfl ?_
  intro p e s m args below meth c s₁ B hml hv
  obtain ⟨hargs, hP, hE, hD0⟩ := hv
  have hK := hE.1
  subst hargs
  have hx := B.exec
  have hb := B.bytes
  have hr := B.returns
  have hts := atoms_spec (ws := wsX2_keep) B.pre
  have hown : s.vm.findClass RX2 = some m.cls := findClass_of_methodNamed B.named
  have hlocks := B.notSynchronized
  have hD := ft_D_self hD0
  have hS : va_S (ft_A 292 ad) s.heap s.heap [] := va_S.rf
  have hl := lv_entry ([.ref (ad 254), .ref (ft_sq ad 0 0)]) (n := 2) (Nat.le_of_ble_eq_true rfl)
  rw [lg_entry_eq]
  generalize (lg_sl ([.ref (ad 254), .ref (ft_sq ad 0 0)]) ++ List.replicate (2 - (lg_sl ([.ref (ad 254), .ref (ft_sq ad 0 0)])).length) Slot.unset).toArray = ls at hl ⊢
  have hl : lv_has ls 2 [(0, .ref (ad 254)), (1, .ref (ft_sq ad 0 0))] := hl
  have hsp := (s_X2_keep.eq_1 q pm o ).symm
  refine lv_aload_n hx hb dX2_keep_0 rfl (lv_at hl 0 rfl) ?_
  refine va_get (D := dC) (ci := 4) (v := .int (o 3)) (C := RX2) (T := TX2) (N := 2) hx hb hts (by decide +kernel) hown hK.1 hP (253 + 1) (ft_get' (by decide) rfl) rfl 1 (by decide) (hts (.fieldLink RX2 18 "FoodTruckRota$History" "kept" "I") (by decide +kernel)) (fun _ h9 => h9) rfl dX2_keep_1 ?_
  refine lv_bipush (v := 8) hx hb dX2_keep_4 (by decide) ?_
  refine lv_icmp_lt (tgt := 13) hx hb dX2_keep_6 (by decide) (fun c_6 => ?_) (fun c_6 => ?_)
  · replace hsp := (if_pos c_6).symm.trans hsp
    refine lv_aload_n hx hb dX2_keep_13 rfl (lv_at hl 0 rfl) ?_
    refine va_get (D := dC) (ci := 4) (v := .int (o 3)) (C := RX2) (T := TX2) (N := 2) hx hb hts (by decide +kernel) hown hK.1 hP (253 + 1) (ft_get' (by decide) rfl) rfl 1 (by decide) (hts (.fieldLink RX2 18 "FoodTruckRota$History" "kept" "I") (by decide +kernel)) (fun _ h9 => h9) rfl dX2_keep_14 ?_
    refine lv_if_lt (tgt := 52) hx hb dX2_keep_17 (by decide) (fun c_17 => ?_) (fun c_17 => ?_)
    · replace hsp := (if_pos c_17).symm.trans hsp
      exact W.vret hx hb hr (fun t ht hW => ⟨⟨(q, pm, o), rfl, hsp, ft_heap ht hP⟩, hS.F ht⟩) hS.2.2 dX2_keep_52
    · replace hsp := (if_neg c_17).symm.trans hsp
      refine lv_aload_n hx hb dX2_keep_20 rfl (lv_at hl 0 rfl) ?_
      refine va_get (D := dC) (ci := 4) (v := .int (o 3)) (C := RX2) (T := TX2) (N := 2) hx hb hts (by decide +kernel) hown hK.1 hP (253 + 1) (ft_get' (by decide) rfl) rfl 1 (by decide) (hts (.fieldLink RX2 18 "FoodTruckRota$History" "kept" "I") (by decide +kernel)) (fun _ h9 => h9) rfl dX2_keep_21 ?_
      refine lv_bipush (v := 8) hx hb dX2_keep_24 (by decide) ?_
      refine lv_icmp_ge (tgt := 52) hx hb dX2_keep_26 (by decide) (fun c_26 => ?_) (fun c_26 => ?_)
      · replace hsp := (if_pos c_26).symm.trans hsp
        exact W.vret hx hb hr (fun t ht hW => ⟨⟨(q, pm, o), rfl, hsp, ft_heap ht hP⟩, hS.F ht⟩) hS.2.2 dX2_keep_52
      · replace hsp := (if_neg c_26).symm.trans hsp
        refine lv_aload_n hx hb dX2_keep_29 rfl (lv_at hl 0 rfl) ?_
        refine va_get (D := dC) (ci := 4) (v := .ref (ad 255)) (C := RX2) (T := TX2) (N := 2) hx hb hts (by decide +kernel) hown hK.1 hP (253 + 1) (ft_get' (by decide) rfl) rfl 0 (by decide) (hts (.fieldLink RX2 11 "FoodTruckRota$History" "earlier" "[LFoodTruckRota$Square;") (by decide +kernel)) (fun _ h9 => h9) rfl dX2_keep_30 ?_
        refine lv_aload_n hx hb dX2_keep_33 rfl (lv_at hl 0 rfl) ?_
        refine va_get (D := dC) (ci := 4) (v := .int (o 3)) (C := RX2) (T := TX2) (N := 2) hx hb hts (by decide +kernel) hown hK.1 hP (253 + 1) (ft_get' (by decide) rfl) rfl 1 (by decide) (hts (.fieldLink RX2 18 "FoodTruckRota$History" "kept" "I") (by decide +kernel)) (fun _ h9 => h9) rfl dX2_keep_34 ?_
        have h_37 : vp_in (o 3) 8 := by exact in_of2' (by assumption) (by assumption)
        refine va_aldq (C := RX4) hx hb hK.1 hP (253 + 2) 2 (ft_get' (by decide) rfl) rfl h_37 dX2_keep_37 ?_
        refine W.eq (g2 := F0 m 38 ls [.ref (ft_sq ad (3 + pm (tn (o 3))) 0)]) rfl ?_
        refine lv_aload_n hx hb dX2_keep_38 rfl (lv_at hl 1 rfl) ?_
        refine va_callv (va_runV (As := [.ref (ft_sq ad 0 0)]) (rest := []) ⟨hx, hb, hml, hown, hts⟩ (c_X4_copyFrom l dC (ft_sq ad (3 + pm (tn (o 3)))) k (q (3 + pm (tn (o 3)))) (ft_sq ad 0) (q 0)) (cwV 1 hts gX2_keep_X4_copyFrom rfl rfl rfl (by decide +kernel) ⟨Nat.le_of_ble_eq_true rfl, Nat.le_of_ble_eq_true rfl⟩) (ft_preVd hK (ft_R_P2 hP (a := (3 + pm (tn (o 3)))) (b := 0) (by have := hpm _ (ft_tn h_37); omega) (by decide)) (ft_R_D2 hD (a := (3 + pm (tn (o 3)))) (b := 0) (by have := hpm _ (ft_tn h_37); omega) (by decide) (by omega)) (ci := 6) rfl (ft_get' (by decide) rfl)) rfl rfl hl.1 rfl (lv_room (Nat.le_of_ble_eq_true rfl)) dX2_keep_39 ⟨Nat.le_of_ble_eq_true rfl, Nat.le_of_ble_eq_true rfl⟩) hS (fun z9 _ h => ft_R_A2 (a := (3 + pm (tn (o 3)))) (b := 0) (by have := hpm _ (ft_tn h_37); omega) (by decide) z9 h) (fun z9 h => ft_R_A2 (a := (3 + pm (tn (o 3)))) (b := 0) (by have := hpm _ (ft_tn h_37); omega) (by decide) z9 h) (fun u t H1 locs ht hvm hw hB hz1 hk1 hS => ?_)
        subst hw
        rw [ht] at hB
        have hP : va_P dC vwCl (ft_WR ad k Z (va_up q (3 + pm (tn (o 3))) (s_X4_copyFrom (q (3 + pm (tn (o 3)))) (q 0))) pm o g) H1 := ft_R_join2 hP hD (a := (3 + pm (tn (o 3)))) (b := 0) (by have := hpm _ (ft_tn h_37); omega) (by decide) (by omega) hk1 hB
        have hD : va_D (ft_A 292 ad) (ft_WR ad k Z (va_up q (3 + pm (tn (o 3))) (s_X4_copyFrom (q (3 + pm (tn (o 3)))) (q 0))) pm o g) := ft_D_va hD _
        generalize H1 = H at hP hS ⊢
        refine lv_aload_n hx hb dX2_keep_42 rfl (lv_at hl 0 rfl) ?_
        refine lv_dup hx hb dX2_keep_43 rfl ?_
        refine va_get (D := dC) (ci := 4) (v := .int (o 3)) (C := RX2) (T := TX2) (N := 2) hx hb hts (by decide +kernel) hown hK.1 hP (253 + 1) (ft_get' (by decide) rfl) rfl 1 (by decide) (hts (.fieldLink RX2 18 "FoodTruckRota$History" "kept" "I") (by decide +kernel)) (fun _ h9 => h9) rfl dX2_keep_44 ?_
        refine lv_iconst (v := 1) hx hb dX2_keep_47 (by decide) ?_
        refine lv_iadd hx hb dX2_keep_48 ?_
        refine va_put (D := dC) (ci := 4) (v := .int ((o 3) + 1)) (ty := .int) (C := RX2) (T := TX2) (N := 2) hx hb hts (by decide +kernel) tyX2 tyX2_ok nmX2 hown hK.1 hP hD hS (253 + 1) (ft_get' (by decide) rfl) rfl 1 (by decide) (hts (.fieldLink RX2 18 "FoodTruckRota$History" "kept" "I") (by decide +kernel)) (fun _ h9 => h9) rfl (by decide +kernel) rfl rfl (Nat.le_of_ble_eq_true rfl) dX2_keep_49 (fun H locs hP hD hS => ?_)
        have hP := ft_cast hP (ft_R_p3)
        have hD := ft_castD hD (ft_R_p3)
        have hP : va_P dC vwCl (ft_WR ad k Z (va_up q (3 + pm (tn (o 3))) (s_X4_copyFrom (q (3 + pm (tn (o 3)))) (q 0))) pm (va_up o 3 ((o 3) + 1)) g) H := hP
        have hD : va_D (ft_A 292 ad) (ft_WR ad k Z (va_up q (3 + pm (tn (o 3))) (s_X4_copyFrom (q (3 + pm (tn (o 3)))) (q 0))) pm (va_up o 3 ((o 3) + 1)) g) := hD
        exact W.vret hx hb hr (fun t ht hW => ⟨⟨(va_up q (3 + pm (tn (o 3))) (s_X4_copyFrom (q (3 + pm (tn (o 3)))) (q 0)), pm, va_up o 3 ((o 3) + 1)), rfl, hsp, ft_heap ht hP⟩, hS.F ht⟩) hS.2.2 dX2_keep_52
  · replace hsp := (if_neg c_6).symm.trans hsp
    refine lv_aload_n hx hb dX2_keep_9 rfl (lv_at hl 0 rfl) ?_
    refine va_callv (va_runV (As := []) (rest := []) ⟨hx, hb, hml, hown, hts⟩ (c_X2_forgetOldest l dC Z ad k q pm o g   hpm) (cwV 0 hts gX2_keep_X2_forgetOldest rfl rfl rfl (by decide +kernel) ⟨Nat.le_of_ble_eq_true rfl, Nat.le_of_ble_eq_true rfl⟩) (ft_preVh hE hS (fun _ h => h) hP hD (ci := 4) (q0 := (253 + 1)) rfl (ft_get' (by decide) rfl)) rfl rfl hl.1 rfl (lv_room (Nat.le_of_ble_eq_true rfl)) dX2_keep_10 ⟨Nat.le_of_ble_eq_true rfl, Nat.le_of_ble_eq_true rfl⟩) hS (fun q _ h => h) (fun q h => h) (fun u t H1 locs ht hvm hw hB hz1 hk1 hS => ?_)
    subst hw
    rw [ht] at hB
    have hP : va_P dC vwCl (ft_WR ad k Z ((s_X2_forgetOldest q pm o).1) ((s_X2_forgetOldest q pm o).2.1) ((s_X2_forgetOldest q pm o).2.2) g) H1 := hB
    have hD : va_D (ft_A 292 ad) (ft_WR ad k Z ((s_X2_forgetOldest q pm o).1) ((s_X2_forgetOldest q pm o).2.1) ((s_X2_forgetOldest q pm o).2.2) g) := ft_D_va hD _
    generalize H1 = H at hP hS ⊢
    refine lv_aload_n hx hb dX2_keep_13 rfl (lv_at hl 0 rfl) ?_
    refine va_get (D := dC) (ci := 4) (v := .int (((s_X2_forgetOldest q pm o).2.2) 3)) (C := RX2) (T := TX2) (N := 2) hx hb hts (by decide +kernel) hown hK.1 hP (253 + 1) (ft_get' (by decide) rfl) rfl 1 (by decide) (hts (.fieldLink RX2 18 "FoodTruckRota$History" "kept" "I") (by decide +kernel)) (fun _ h9 => h9) rfl dX2_keep_14 ?_
    refine lv_if_lt (tgt := 52) hx hb dX2_keep_17 (by decide) (fun c_17 => ?_) (fun c_17 => ?_)
    · replace hsp := (if_pos c_17).symm.trans hsp
      exact W.vret hx hb hr (fun t ht hW => ⟨⟨((s_X2_forgetOldest q pm o).1, (s_X2_forgetOldest q pm o).2.1, (s_X2_forgetOldest q pm o).2.2), rfl, hsp, ft_heap ht hP⟩, hS.F ht⟩) hS.2.2 dX2_keep_52
    · replace hsp := (if_neg c_17).symm.trans hsp
      refine lv_aload_n hx hb dX2_keep_20 rfl (lv_at hl 0 rfl) ?_
      refine va_get (D := dC) (ci := 4) (v := .int (((s_X2_forgetOldest q pm o).2.2) 3)) (C := RX2) (T := TX2) (N := 2) hx hb hts (by decide +kernel) hown hK.1 hP (253 + 1) (ft_get' (by decide) rfl) rfl 1 (by decide) (hts (.fieldLink RX2 18 "FoodTruckRota$History" "kept" "I") (by decide +kernel)) (fun _ h9 => h9) rfl dX2_keep_21 ?_
      refine lv_bipush (v := 8) hx hb dX2_keep_24 (by decide) ?_
      refine lv_icmp_ge (tgt := 52) hx hb dX2_keep_26 (by decide) (fun c_26 => ?_) (fun c_26 => ?_)
      · replace hsp := (if_pos c_26).symm.trans hsp
        exact W.vret hx hb hr (fun t ht hW => ⟨⟨((s_X2_forgetOldest q pm o).1, (s_X2_forgetOldest q pm o).2.1, (s_X2_forgetOldest q pm o).2.2), rfl, hsp, ft_heap ht hP⟩, hS.F ht⟩) hS.2.2 dX2_keep_52
      · replace hsp := (if_neg c_26).symm.trans hsp
        refine lv_aload_n hx hb dX2_keep_29 rfl (lv_at hl 0 rfl) ?_
        refine va_get (D := dC) (ci := 4) (v := .ref (ad 255)) (C := RX2) (T := TX2) (N := 2) hx hb hts (by decide +kernel) hown hK.1 hP (253 + 1) (ft_get' (by decide) rfl) rfl 0 (by decide) (hts (.fieldLink RX2 11 "FoodTruckRota$History" "earlier" "[LFoodTruckRota$Square;") (by decide +kernel)) (fun _ h9 => h9) rfl dX2_keep_30 ?_
        refine lv_aload_n hx hb dX2_keep_33 rfl (lv_at hl 0 rfl) ?_
        refine va_get (D := dC) (ci := 4) (v := .int (((s_X2_forgetOldest q pm o).2.2) 3)) (C := RX2) (T := TX2) (N := 2) hx hb hts (by decide +kernel) hown hK.1 hP (253 + 1) (ft_get' (by decide) rfl) rfl 1 (by decide) (hts (.fieldLink RX2 18 "FoodTruckRota$History" "kept" "I") (by decide +kernel)) (fun _ h9 => h9) rfl dX2_keep_34 ?_
        have h_37 : vp_in (((s_X2_forgetOldest q pm o).2.2) 3) 8 := by exact in_of2' (by assumption) (by assumption)
        refine va_aldq (C := RX4) hx hb hK.1 hP (253 + 2) 2 (ft_get' (by decide) rfl) rfl h_37 dX2_keep_37 ?_
        refine W.eq (g2 := F0 m 38 ls [.ref (ft_sq ad (3 + ((s_X2_forgetOldest q pm o).2.1) (tn (((s_X2_forgetOldest q pm o).2.2) 3))) 0)]) rfl ?_
        refine lv_aload_n hx hb dX2_keep_38 rfl (lv_at hl 1 rfl) ?_
        refine va_callv (va_runV (As := [.ref (ft_sq ad 0 0)]) (rest := []) ⟨hx, hb, hml, hown, hts⟩ (c_X4_copyFrom l dC (ft_sq ad (3 + ((s_X2_forgetOldest q pm o).2.1) (tn (((s_X2_forgetOldest q pm o).2.2) 3)))) k (((s_X2_forgetOldest q pm o).1) (3 + ((s_X2_forgetOldest q pm o).2.1) (tn (((s_X2_forgetOldest q pm o).2.2) 3)))) (ft_sq ad 0) (((s_X2_forgetOldest q pm o).1) 0)) (cwV 1 hts gX2_keep_X4_copyFrom rfl rfl rfl (by decide +kernel) ⟨Nat.le_of_ble_eq_true rfl, Nat.le_of_ble_eq_true rfl⟩) (ft_preVd hK (ft_R_P2 hP (a := (3 + ((s_X2_forgetOldest q pm o).2.1) (tn (((s_X2_forgetOldest q pm o).2.2) 3)))) (b := 0) (by have := (pm_X2_forgetOldest q pm o hpm) _ (ft_tn h_37); omega) (by decide)) (ft_R_D2 hD (a := (3 + ((s_X2_forgetOldest q pm o).2.1) (tn (((s_X2_forgetOldest q pm o).2.2) 3)))) (b := 0) (by have := (pm_X2_forgetOldest q pm o hpm) _ (ft_tn h_37); omega) (by decide) (by omega)) (ci := 6) rfl (ft_get' (by decide) rfl)) rfl rfl hl.1 rfl (lv_room (Nat.le_of_ble_eq_true rfl)) dX2_keep_39 ⟨Nat.le_of_ble_eq_true rfl, Nat.le_of_ble_eq_true rfl⟩) hS (fun z9 _ h => ft_R_A2 (a := (3 + ((s_X2_forgetOldest q pm o).2.1) (tn (((s_X2_forgetOldest q pm o).2.2) 3)))) (b := 0) (by have := (pm_X2_forgetOldest q pm o hpm) _ (ft_tn h_37); omega) (by decide) z9 h) (fun z9 h => ft_R_A2 (a := (3 + ((s_X2_forgetOldest q pm o).2.1) (tn (((s_X2_forgetOldest q pm o).2.2) 3)))) (b := 0) (by have := (pm_X2_forgetOldest q pm o hpm) _ (ft_tn h_37); omega) (by decide) z9 h) (fun u t H1 locs ht hvm hw hB hz1 hk1 hS => ?_)
        subst hw
        rw [ht] at hB
        have hP : va_P dC vwCl (ft_WR ad k Z (va_up ((s_X2_forgetOldest q pm o).1) (3 + ((s_X2_forgetOldest q pm o).2.1) (tn (((s_X2_forgetOldest q pm o).2.2) 3))) (s_X4_copyFrom (((s_X2_forgetOldest q pm o).1) (3 + ((s_X2_forgetOldest q pm o).2.1) (tn (((s_X2_forgetOldest q pm o).2.2) 3)))) (((s_X2_forgetOldest q pm o).1) 0))) ((s_X2_forgetOldest q pm o).2.1) ((s_X2_forgetOldest q pm o).2.2) g) H1 := ft_R_join2 hP hD (a := (3 + ((s_X2_forgetOldest q pm o).2.1) (tn (((s_X2_forgetOldest q pm o).2.2) 3)))) (b := 0) (by have := (pm_X2_forgetOldest q pm o hpm) _ (ft_tn h_37); omega) (by decide) (by omega) hk1 hB
        have hD : va_D (ft_A 292 ad) (ft_WR ad k Z (va_up ((s_X2_forgetOldest q pm o).1) (3 + ((s_X2_forgetOldest q pm o).2.1) (tn (((s_X2_forgetOldest q pm o).2.2) 3))) (s_X4_copyFrom (((s_X2_forgetOldest q pm o).1) (3 + ((s_X2_forgetOldest q pm o).2.1) (tn (((s_X2_forgetOldest q pm o).2.2) 3)))) (((s_X2_forgetOldest q pm o).1) 0))) ((s_X2_forgetOldest q pm o).2.1) ((s_X2_forgetOldest q pm o).2.2) g) := ft_D_va hD _
        generalize H1 = H at hP hS ⊢
        refine lv_aload_n hx hb dX2_keep_42 rfl (lv_at hl 0 rfl) ?_
        refine lv_dup hx hb dX2_keep_43 rfl ?_
        refine va_get (D := dC) (ci := 4) (v := .int (((s_X2_forgetOldest q pm o).2.2) 3)) (C := RX2) (T := TX2) (N := 2) hx hb hts (by decide +kernel) hown hK.1 hP (253 + 1) (ft_get' (by decide) rfl) rfl 1 (by decide) (hts (.fieldLink RX2 18 "FoodTruckRota$History" "kept" "I") (by decide +kernel)) (fun _ h9 => h9) rfl dX2_keep_44 ?_
        refine lv_iconst (v := 1) hx hb dX2_keep_47 (by decide) ?_
        refine lv_iadd hx hb dX2_keep_48 ?_
        refine va_put (D := dC) (ci := 4) (v := .int ((((s_X2_forgetOldest q pm o).2.2) 3) + 1)) (ty := .int) (C := RX2) (T := TX2) (N := 2) hx hb hts (by decide +kernel) tyX2 tyX2_ok nmX2 hown hK.1 hP hD hS (253 + 1) (ft_get' (by decide) rfl) rfl 1 (by decide) (hts (.fieldLink RX2 18 "FoodTruckRota$History" "kept" "I") (by decide +kernel)) (fun _ h9 => h9) rfl (by decide +kernel) rfl rfl (Nat.le_of_ble_eq_true rfl) dX2_keep_49 (fun H locs hP hD hS => ?_)
        have hP := ft_cast hP (ft_R_p3)
        have hD := ft_castD hD (ft_R_p3)
        have hP : va_P dC vwCl (ft_WR ad k Z (va_up ((s_X2_forgetOldest q pm o).1) (3 + ((s_X2_forgetOldest q pm o).2.1) (tn (((s_X2_forgetOldest q pm o).2.2) 3))) (s_X4_copyFrom (((s_X2_forgetOldest q pm o).1) (3 + ((s_X2_forgetOldest q pm o).2.1) (tn (((s_X2_forgetOldest q pm o).2.2) 3)))) (((s_X2_forgetOldest q pm o).1) 0))) ((s_X2_forgetOldest q pm o).2.1) (va_up ((s_X2_forgetOldest q pm o).2.2) 3 ((((s_X2_forgetOldest q pm o).2.2) 3) + 1)) g) H := hP
        have hD : va_D (ft_A 292 ad) (ft_WR ad k Z (va_up ((s_X2_forgetOldest q pm o).1) (3 + ((s_X2_forgetOldest q pm o).2.1) (tn (((s_X2_forgetOldest q pm o).2.2) 3))) (s_X4_copyFrom (((s_X2_forgetOldest q pm o).1) (3 + ((s_X2_forgetOldest q pm o).2.1) (tn (((s_X2_forgetOldest q pm o).2.2) 3)))) (((s_X2_forgetOldest q pm o).1) 0))) ((s_X2_forgetOldest q pm o).2.1) (va_up ((s_X2_forgetOldest q pm o).2.2) 3 ((((s_X2_forgetOldest q pm o).2.2) 3) + 1)) g) := hD
        exact W.vret hx hb hr (fun t ht hW => ⟨⟨(va_up ((s_X2_forgetOldest q pm o).1) (3 + ((s_X2_forgetOldest q pm o).2.1) (tn (((s_X2_forgetOldest q pm o).2.2) 3))) (s_X4_copyFrom (((s_X2_forgetOldest q pm o).1) (3 + ((s_X2_forgetOldest q pm o).2.1) (tn (((s_X2_forgetOldest q pm o).2.2) 3)))) (((s_X2_forgetOldest q pm o).1) 0)), (s_X2_forgetOldest q pm o).2.1, va_up ((s_X2_forgetOldest q pm o).2.2) 3 ((((s_X2_forgetOldest q pm o).2.2) 3) + 1)), rfl, hsp, ft_heap ht hP⟩, hS.F ht⟩) hS.2.2 dX2_keep_52

def s_X7_takeDraft (q : Nat → Nat → Int32) (pm : Nat → Nat) (o : Nat → Int32)  : ft_St := (va_up ((s_X2_keep q pm o).1) 0 (s_X4_copyFrom (((s_X2_keep q pm o).1) 0) (((s_X2_keep q pm o).1) 1)), (s_X2_keep q pm o).2.1, (s_X2_keep q pm o).2.2)
set_option maxHeartbeats 4000000 in
set_option maxRecDepth 100000 in
theorem c_X7_takeDraft (l : Launch) (dC : va_G) (Z : Nat → Nat → Nat) (ad : Nat → Nat) (k : Nat → ClassId) (q : Nat → Nat → Int32) (pm : Nat → Nat) (o : Nat → Int32) (g : ft_G)  (hpm : ∀ i, i < 8 → pm i < 8) : Met l yX7_takeDraft wsX7_takeDraft ({ frames := 4, cells := 0, slots := 0, locals := 124 }) (ft_Pf dC k Z (ft_A 292 ad) [.ref (ad 253)] (ft_WR ad k Z q pm o g)) (va_Qv (fun (u : ft_St) => u = s_X7_takeDraft q pm o) (fun (u : ft_St) (t : State) => va_P dC vwCl (ft_WR ad k Z u.1 u.2.1 u.2.2 g) t.heap) (ft_A 292 ad)) 0 0 (ft_A 292 ad) := by
  refine Met.ofW (cc := cX7_takeDraft) (maxL := 1) (ret := none) (by decide) rfl ?_
  intro p e s m args below meth c s₁ B hml hv
  obtain ⟨hargs, hP, hE, hD0⟩ := hv
  have hK := hE.1
  subst hargs
  have hx := B.exec
  have hb := B.bytes
  have hr := B.returns
  have hts := atoms_spec (ws := wsX7_takeDraft) B.pre
  have hown : s.vm.findClass RX7 = some m.cls := findClass_of_methodNamed B.named
  have hlocks := B.notSynchronized
  have hD := ft_D_self hD0
  have hS : va_S (ft_A 292 ad) s.heap s.heap [] := va_S.rf
  have hl := lv_entry ([.ref (ad 253)]) (n := 1) (Nat.le_of_ble_eq_true rfl)
  rw [lg_entry_eq]
  generalize (lg_sl ([.ref (ad 253)]) ++ List.replicate (1 - (lg_sl ([.ref (ad 253)])).length) Slot.unset).toArray = ls at hl ⊢
  have hl : lv_has ls 1 [(0, .ref (ad 253))] := hl
  have hsp := (s_X7_takeDraft.eq_1 q pm o ).symm
  refine lv_aload_n hx hb dX7_takeDraft_0 rfl (lv_at hl 0 rfl) ?_
  refine va_get (D := dC) (ci := 9) (v := .ref (ad 254)) (C := RX7) (T := TX7) (N := 9) hx hb hts (by decide +kernel) hown hK.1 hP (253 + 0) (ft_get' (by decide) rfl) rfl 3 (by decide) (hts (.fieldLink RX7 25 "FoodTruckRota" "history" "LFoodTruckRota$History;") (by decide +kernel)) (fun _ h9 => h9) rfl dX7_takeDraft_1 ?_
  refine lv_aload_n hx hb dX7_takeDraft_4 rfl (lv_at hl 0 rfl) ?_
  refine va_get (D := dC) (ci := 9) (v := .ref (ft_sq ad 0 0)) (C := RX7) (T := TX7) (N := 9) hx hb hts (by decide +kernel) hown hK.1 hP (253 + 0) (ft_get' (by decide) rfl) rfl 0 (by decide) (hts (.fieldLink RX7 12 "FoodTruckRota" "square" "LFoodTruckRota$Square;") (by decide +kernel)) (fun _ h9 => h9) rfl dX7_takeDraft_5 ?_
  refine va_callv (va_runV (As := [.ref (ft_sq ad 0 0)]) (rest := []) ⟨hx, hb, hml, hown, hts⟩ (c_X2_keep l dC Z ad k q pm o g   hpm) (cwV 1 hts gX7_takeDraft_X2_keep rfl rfl rfl (by decide +kernel) ⟨Nat.le_of_ble_eq_true rfl, Nat.le_of_ble_eq_true rfl⟩) (ft_preVh hE hS (fun _ h => h) hP hD (ci := 4) (q0 := (253 + 1)) rfl (ft_get' (by decide) rfl)) rfl rfl hl.1 rfl (lv_room (Nat.le_of_ble_eq_true rfl)) dX7_takeDraft_8 ⟨Nat.le_of_ble_eq_true rfl, Nat.le_of_ble_eq_true rfl⟩) hS (fun q _ h => h) (fun q h => h) (fun u t H1 locs ht hvm hw hB hz1 hk1 hS => ?_)
  subst hw
  rw [ht] at hB
  have hP : va_P dC vwCl (ft_WR ad k Z ((s_X2_keep q pm o).1) ((s_X2_keep q pm o).2.1) ((s_X2_keep q pm o).2.2) g) H1 := hB
  have hD : va_D (ft_A 292 ad) (ft_WR ad k Z ((s_X2_keep q pm o).1) ((s_X2_keep q pm o).2.1) ((s_X2_keep q pm o).2.2) g) := ft_D_va hD _
  generalize H1 = H at hP hS ⊢
  refine lv_aload_n hx hb dX7_takeDraft_11 rfl (lv_at hl 0 rfl) ?_
  refine va_get (D := dC) (ci := 9) (v := .ref (ft_sq ad 0 0)) (C := RX7) (T := TX7) (N := 9) hx hb hts (by decide +kernel) hown hK.1 hP (253 + 0) (ft_get' (by decide) rfl) rfl 0 (by decide) (hts (.fieldLink RX7 12 "FoodTruckRota" "square" "LFoodTruckRota$Square;") (by decide +kernel)) (fun _ h9 => h9) rfl dX7_takeDraft_12 ?_
  refine lv_aload_n hx hb dX7_takeDraft_15 rfl (lv_at hl 0 rfl) ?_
  refine va_get (D := dC) (ci := 9) (v := .ref (ft_sq ad 1 0)) (C := RX7) (T := TX7) (N := 9) hx hb hts (by decide +kernel) hown hK.1 hP (253 + 0) (ft_get' (by decide) rfl) rfl 1 (by decide) (hts (.fieldLink RX7 16 "FoodTruckRota" "draft" "LFoodTruckRota$Square;") (by decide +kernel)) (fun _ h9 => h9) rfl dX7_takeDraft_16 ?_
  refine va_callv (va_runV (As := [.ref (ft_sq ad 1 0)]) (rest := []) ⟨hx, hb, hml, hown, hts⟩ (c_X4_copyFrom l dC (ft_sq ad 0) k (((s_X2_keep q pm o).1) 0) (ft_sq ad 1) (((s_X2_keep q pm o).1) 1)) (cwV 1 hts gX7_takeDraft_X4_copyFrom rfl rfl rfl (by decide +kernel) ⟨Nat.le_of_ble_eq_true rfl, Nat.le_of_ble_eq_true rfl⟩) (ft_preVd hK (ft_R_P2 hP (a := 0) (b := 1) (by decide) (by decide)) (ft_R_D2 hD (a := 0) (b := 1) (by decide) (by decide) (by omega)) (ci := 6) rfl (ft_get' (by decide) rfl)) rfl rfl hl.1 rfl (lv_room (Nat.le_of_ble_eq_true rfl)) dX7_takeDraft_19 ⟨Nat.le_of_ble_eq_true rfl, Nat.le_of_ble_eq_true rfl⟩) hS (fun z9 _ h => ft_R_A2 (a := 0) (b := 1) (by decide) (by decide) z9 h) (fun z9 h => ft_R_A2 (a := 0) (b := 1) (by decide) (by decide) z9 h) (fun u t H1 locs ht hvm hw hB hz1 hk1 hS => ?_)
  subst hw
  rw [ht] at hB
  have hP : va_P dC vwCl (ft_WR ad k Z (va_up ((s_X2_keep q pm o).1) 0 (s_X4_copyFrom (((s_X2_keep q pm o).1) 0) (((s_X2_keep q pm o).1) 1))) ((s_X2_keep q pm o).2.1) ((s_X2_keep q pm o).2.2) g) H1 := ft_R_join2 hP hD (a := 0) (b := 1) (by decide) (by decide) (by omega) hk1 hB
  have hD : va_D (ft_A 292 ad) (ft_WR ad k Z (va_up ((s_X2_keep q pm o).1) 0 (s_X4_copyFrom (((s_X2_keep q pm o).1) 0) (((s_X2_keep q pm o).1) 1))) ((s_X2_keep q pm o).2.1) ((s_X2_keep q pm o).2.2) g) := ft_D_va hD _
  generalize H1 = H at hP hS ⊢
  exact W.vret hx hb hr (fun t ht hW => ⟨⟨(va_up ((s_X2_keep q pm o).1) 0 (s_X4_copyFrom (((s_X2_keep q pm o).1) 0) (((s_X2_keep q pm o).1) 1)), (s_X2_keep q pm o).2.1, (s_X2_keep q pm o).2.2), rfl, hsp, ft_heap ht hP⟩, hS.F ht⟩) hS.2.2 dX7_takeDraft_22

theorem ft_ne {x y : Int32} (h : ¬ x = y) : x.toInt ≠ y.toInt := fun e => h (Int32.toInt_inj.mp e)
theorem in_gb {o : Nat → Int32} (h1 : ¬ o 3 < 1) (h2 : o 3 ≤ 8) : vp_in (va_up o 3 (o 3 - 1) 3) 8 := by
  rw [va_up_self]
  rw [Int32.lt_iff_toInt_lt] at h1
  rw [Int32.le_iff_toInt_le] at h2
  have e1 : (1 : Int32).toInt = 1 := rfl
  have e8 : (8 : Int32).toInt = 8 := rfl
  have e : (o 3 - 1).toInt = (o 3).toInt - 1 := by
    rw [Int32.toInt_sub, e1]
    exact Int.bmod_eq_of_le (by omega) (by omega)
  refine in_of2' (n := 8) ?_ ?_
  · rw [Int32.lt_iff_toInt_lt, e]; have e0 : (0 : Int32).toInt = 0 := rfl; omega
  · rw [Int32.le_iff_toInt_le, e]; omega

def s_X7_refuse  (x1 : Int32) : Except String Unit := if x1 = (-5) then (.error "java/util/NoSuchElementException") else (if x1 = (-4) then (.error "java/lang/IllegalStateException") else (if x1 = (-3) then (.error "java/lang/UnsupportedOperationException") else (if x1 = (-2) then (.error "java/lang/IllegalArgumentException") else (if x1 = (-1) then (.error "java/lang/IndexOutOfBoundsException") else (.error "java/lang/IllegalStateException")))))
set_option maxHeartbeats 4000000 in
set_option maxRecDepth 100000 in
theorem c_X7_refuse (l : Launch) (hl0 : l.stackTraces = false) (dC : va_G) (Z : Nat → Nat → Nat) (A : Nat → Prop) (k : Nat → ClassId) (x1 : Int32): vx_Met l yX7_refuse wsX7_refuse ({ frames := 6, cells := 1, slots := 6, locals := 90 }) (ft_Po dC k Z A [.int x1]) (ft_Qxv (s_X7_refuse x1)) (ft_Xx (s_X7_refuse x1)) 1 6 (fun _ => False) := by
  refine vx_ofW (cc := cX7_refuse) (maxL := 1) (ret := none) (by decide) rfl ?_
  intro p e s m args below meth c s₁ B hml hnt hv
  obtain ⟨hargs, hE⟩ := hv
  have hK := hE.1
  subst hargs
  have hx := B.exec
  have hb := B.bytes
  have hr := B.returns
  have hts := atoms_spec (ws := wsX7_refuse) B.pre
  have hown : s.vm.findClass RX7 = some m.cls := findClass_of_methodNamed B.named
  have hlocks := B.notSynchronized
  have hS0 : va_S (fun _ => False) s.heap s.heap [] := va_S.rf
  have hl := lv_entry ([.int x1]) (n := 1) (Nat.le_of_ble_eq_true rfl)
  rw [lg_entry_eq]
  generalize (lg_sl ([.int x1]) ++ List.replicate (1 - (lg_sl ([.int x1])).length) Slot.unset).toArray = ls at hl ⊢
  have hl : lv_has ls 1 [(0, .int (x1))] := hl
  have hsp := (s_X7_refuse.eq_1  x1).symm
  refine lv_iload_n hx hb dX7_refuse_0 rfl (lv_at hl 0 rfl) ?_
  by_cases k_1_0 : x1 = (-5)
  · replace hsp := (if_pos k_1_0).symm.trans hsp
    refine lv_tableIn (tgt := 69) (off := 68) hx hb dX7_refuse_1 (by rw [k_1_0]; decide) (by rw [k_1_0]; decide) (by rw [k_1_0]; rfl) (by decide) ?_
    obtain ⟨sa, hsa⟩ := hE.2.1.2.1 (RX7, 313, "the pitch is not assigned on this day of the week") (List.mem_of_getElem? (i := 3) rfl)
    exact ft_throwX (ix := 13) (rx := ft_nrx) (by decide) (by decide) (by decide) (by decide) (text := "the pitch is not assigned on this day of the week") (names := ["java/lang/RuntimeException", "java/lang/Exception"]) hx hb hl0 hown (by decide +kernel) (by decide +kernel) (hts (.classLink RX7 284 "java/util/NoSuchElementException") (by decide +kernel)) (hts (.initialized "java/util/NoSuchElementException") (by decide +kernel)) hsa (vx_hat (fun w h => hts w (List.mem_cons_of_mem _ (List.mem_append_left _ (List.mem_append_right _ h)))) (by decide +kernel) (ft_xw hE "java/util/NoSuchElementException" (by decide +kernel))) (by decide +kernel) hE.2.2.us hE.2.2.ss (ft_Sm hS0) (hl.1.trans hml.symm) dX7_refuse_69 dX7_refuse_72 dX7_refuse_73 dX7_refuse_76 dX7_refuse_79 (fun x hx9 => (hnt x hx9).elim) (Nat.le_of_ble_eq_true rfl) (Nat.le_of_ble_eq_true rfl) (Nat.le_of_ble_eq_true rfl) (Nat.le_of_ble_eq_true rfl) hlocks (fun t _ h1 h2 => ⟨(), trivial, hsp.symm, ft_Fx hS0 h1 h2⟩) (fun z hz => (hS0.2.2 z hz).elim) (by decide) (by decide)
  replace hsp := (if_neg k_1_0).symm.trans hsp
  by_cases k_1_1 : x1 = (-4)
  · replace hsp := (if_pos k_1_1).symm.trans hsp
    refine lv_tableIn (tgt := 80) (off := 79) hx hb dX7_refuse_1 (by rw [k_1_1]; decide) (by rw [k_1_1]; decide) (by rw [k_1_1]; rfl) (by decide) ?_
    obtain ⟨sa, hsa⟩ := hE.2.1.2.1 (RX7, 315, "the state does not allow this change") (List.mem_of_getElem? (i := 4) rfl)
    exact vx_throwSW (text := "the state does not allow this change") (names := ["java/lang/RuntimeException", "java/lang/Exception"]) hx hb hl0 hown (by decide +kernel) (by decide +kernel) (hts (.classLink RX7 244 "java/lang/IllegalStateException") (by decide +kernel)) (hts (.initialized "java/lang/IllegalStateException") (by decide +kernel)) hsa (vx_hat (fun w h => hts w (List.mem_cons_of_mem _ (List.mem_append_right _ h))) (by decide +kernel) (ft_xw hE "java/lang/IllegalStateException" (by decide +kernel))) (by decide +kernel) hE.2.2.us hE.2.2.ss (ft_Sm hS0) (hl.1.trans hml.symm) dX7_refuse_80 dX7_refuse_83 dX7_refuse_84 dX7_refuse_87 dX7_refuse_90 (fun x hx9 => (hnt x hx9).elim) (Nat.le_of_ble_eq_true rfl) (Nat.le_of_ble_eq_true rfl) (Nat.le_of_ble_eq_true rfl) (Nat.le_of_ble_eq_true rfl) hlocks (fun t _ h1 h2 => ⟨(), trivial, hsp.symm, ft_Fx hS0 h1 h2⟩) (fun z hz => (hS0.2.2 z hz).elim) (by decide) (by decide)
  replace hsp := (if_neg k_1_1).symm.trans hsp
  by_cases k_1_2 : x1 = (-3)
  · replace hsp := (if_pos k_1_2).symm.trans hsp
    refine lv_tableIn (tgt := 58) (off := 57) hx hb dX7_refuse_1 (by rw [k_1_2]; decide) (by rw [k_1_2]; decide) (by rw [k_1_2]; rfl) (by decide) ?_
    obtain ⟨sa, hsa⟩ := hE.2.1.2.1 (RX7, 310, "the truck has no permit for this day of the week") (List.mem_of_getElem? (i := 2) rfl)
    exact vx_throwSW (text := "the truck has no permit for this day of the week") (names := ["java/lang/RuntimeException", "java/lang/Exception"]) hx hb hl0 hown (by decide +kernel) (by decide +kernel) (hts (.classLink RX7 308 "java/lang/UnsupportedOperationException") (by decide +kernel)) (hts (.initialized "java/lang/UnsupportedOperationException") (by decide +kernel)) hsa (vx_hat (fun w h => hts w (List.mem_cons_of_mem _ (List.mem_append_left _ (List.mem_append_left _ (List.mem_append_right _ h))))) (by decide +kernel) (ft_xw hE "java/lang/UnsupportedOperationException" (by decide +kernel))) (by decide +kernel) hE.2.2.us hE.2.2.ss (ft_Sm hS0) (hl.1.trans hml.symm) dX7_refuse_58 dX7_refuse_61 dX7_refuse_62 dX7_refuse_65 dX7_refuse_68 (fun x hx9 => (hnt x hx9).elim) (Nat.le_of_ble_eq_true rfl) (Nat.le_of_ble_eq_true rfl) (Nat.le_of_ble_eq_true rfl) (Nat.le_of_ble_eq_true rfl) hlocks (fun t _ h1 h2 => ⟨(), trivial, hsp.symm, ft_Fx hS0 h1 h2⟩) (fun z hz => (hS0.2.2 z hz).elim) (by decide) (by decide)
  replace hsp := (if_neg k_1_2).symm.trans hsp
  by_cases k_1_3 : x1 = (-2)
  · replace hsp := (if_pos k_1_3).symm.trans hsp
    refine lv_tableIn (tgt := 47) (off := 46) hx hb dX7_refuse_1 (by rw [k_1_3]; decide) (by rw [k_1_3]; decide) (by rw [k_1_3]; rfl) (by decide) ?_
    obtain ⟨sa, hsa⟩ := hE.2.1.2.1 (RX7, 306, "an argument is out of its range") (List.mem_of_getElem? (i := 1) rfl)
    exact vx_throwSW (text := "an argument is out of its range") (names := ["java/lang/RuntimeException", "java/lang/Exception"]) hx hb hl0 hown (by decide +kernel) (by decide +kernel) (hts (.classLink RX7 156 "java/lang/IllegalArgumentException") (by decide +kernel)) (hts (.initialized "java/lang/IllegalArgumentException") (by decide +kernel)) hsa (vx_hat (fun w h => hts w (List.mem_cons_of_mem _ (List.mem_append_left _ (List.mem_append_left _ (List.mem_append_left _ (List.mem_append_right _ h)))))) (by decide +kernel) (ft_xw hE "java/lang/IllegalArgumentException" (by decide +kernel))) (by decide +kernel) hE.2.2.us hE.2.2.ss (ft_Sm hS0) (hl.1.trans hml.symm) dX7_refuse_47 dX7_refuse_50 dX7_refuse_51 dX7_refuse_54 dX7_refuse_57 (fun x hx9 => (hnt x hx9).elim) (Nat.le_of_ble_eq_true rfl) (Nat.le_of_ble_eq_true rfl) (Nat.le_of_ble_eq_true rfl) (Nat.le_of_ble_eq_true rfl) hlocks (fun t _ h1 h2 => ⟨(), trivial, hsp.symm, ft_Fx hS0 h1 h2⟩) (fun z hz => (hS0.2.2 z hz).elim) (by decide) (by decide)
  replace hsp := (if_neg k_1_3).symm.trans hsp
  by_cases k_1_4 : x1 = (-1)
  · replace hsp := (if_pos k_1_4).symm.trans hsp
    refine lv_tableIn (tgt := 36) (off := 35) hx hb dX7_refuse_1 (by rw [k_1_4]; decide) (by rw [k_1_4]; decide) (by rw [k_1_4]; rfl) (by decide) ?_
    obtain ⟨sa, hsa⟩ := hE.2.1.2.1 (RX7, 304, "no such truck, dish or pitch") (List.mem_of_getElem? (i := 0) rfl)
    exact vx_throwSW (text := "no such truck, dish or pitch") (names := ["java/lang/RuntimeException", "java/lang/Exception"]) hx hb hl0 hown (by decide +kernel) (by decide +kernel) (hts (.classLink RX7 230 "java/lang/IndexOutOfBoundsException") (by decide +kernel)) (hts (.initialized "java/lang/IndexOutOfBoundsException") (by decide +kernel)) hsa (vx_hat (fun w h => hts w (List.mem_cons_of_mem _ (List.mem_append_left _ (List.mem_append_left _ (List.mem_append_left _ (List.mem_append_left _ (List.mem_append_right _ h))))))) (by decide +kernel) (ft_xw hE "java/lang/IndexOutOfBoundsException" (by decide +kernel))) (by decide +kernel) hE.2.2.us hE.2.2.ss (ft_Sm hS0) (hl.1.trans hml.symm) dX7_refuse_36 dX7_refuse_39 dX7_refuse_40 dX7_refuse_43 dX7_refuse_46 (fun x hx9 => (hnt x hx9).elim) (Nat.le_of_ble_eq_true rfl) (Nat.le_of_ble_eq_true rfl) (Nat.le_of_ble_eq_true rfl) (Nat.le_of_ble_eq_true rfl) hlocks (fun t _ h1 h2 => ⟨(), trivial, hsp.symm, ft_Fx hS0 h1 h2⟩) (fun z hz => (hS0.2.2 z hz).elim) (by decide) (by decide)
  replace hsp := (if_neg k_1_4).symm.trans hsp
  have j_1_0 : x1.toInt ≠ -5 := ft_ne k_1_0
  have j_1_1 : x1.toInt ≠ -4 := ft_ne k_1_1
  have j_1_2 : x1.toInt ≠ -3 := ft_ne k_1_2
  have j_1_3 : x1.toInt ≠ -2 := ft_ne k_1_3
  have j_1_4 : x1.toInt ≠ -1 := ft_ne k_1_4
  refine lv_tableOut (tgt := 80) hx hb dX7_refuse_1 (by omega) (by decide) ?_
  obtain ⟨sa, hsa⟩ := hE.2.1.2.1 (RX7, 315, "the state does not allow this change") (List.mem_of_getElem? (i := 4) rfl)
  exact vx_throwSW (text := "the state does not allow this change") (names := ["java/lang/RuntimeException", "java/lang/Exception"]) hx hb hl0 hown (by decide +kernel) (by decide +kernel) (hts (.classLink RX7 244 "java/lang/IllegalStateException") (by decide +kernel)) (hts (.initialized "java/lang/IllegalStateException") (by decide +kernel)) hsa (vx_hat (fun w h => hts w (List.mem_cons_of_mem _ (List.mem_append_right _ h))) (by decide +kernel) (ft_xw hE "java/lang/IllegalStateException" (by decide +kernel))) (by decide +kernel) hE.2.2.us hE.2.2.ss (ft_Sm hS0) (hl.1.trans hml.symm) dX7_refuse_80 dX7_refuse_83 dX7_refuse_84 dX7_refuse_87 dX7_refuse_90 (fun x hx9 => (hnt x hx9).elim) (Nat.le_of_ble_eq_true rfl) (Nat.le_of_ble_eq_true rfl) (Nat.le_of_ble_eq_true rfl) (Nat.le_of_ble_eq_true rfl) hlocks (fun t _ h1 h2 => ⟨(), trivial, hsp.symm, ft_Fx hS0 h1 h2⟩) (fun z hz => (hS0.2.2 z hz).elim) (by decide) (by decide)

def s_X2_giveBack (q : Nat → Nat → Int32) (pm : Nat → Nat) (o : Nat → Int32)  : Int32 × ft_St := if (o 3) < 1 then ((0, (q, pm, o))) else (if (o 3) ≤ 8 then ((1, (va_up q 0 (s_X4_copyFrom (q 0) (q (3 + pm (tn ((va_up o 3 ((o 3) - 1)) 3))))), pm, va_up o 3 ((o 3) - 1)))) else ((0, (q, pm, o))))
set_option maxHeartbeats 4000000 in
set_option maxRecDepth 100000 in
theorem c_X2_giveBack (l : Launch) (dC : va_G) (Z : Nat → Nat → Nat) (ad : Nat → Nat) (k : Nat → ClassId) (q : Nat → Nat → Int32) (pm : Nat → Nat) (o : Nat → Int32) (g : ft_G)  (hpm : ∀ i, i < 8 → pm i < 8) : Met l yX2_giveBack wsX2_giveBack ({ frames := 3, cells := 0, slots := 0, locals := 103 }) (ft_Pf dC k Z (ft_A 292 ad) [.ref (ad 254), .ref (ft_sq ad 0 0)] (ft_WR ad k Z q pm o g)) (va_Qi (fun (z : Int32) (u : ft_St) => (z, u) = s_X2_giveBack q pm o) (fun (u : ft_St) (t : State) => va_P dC vwCl (ft_WR ad k Z u.1 u.2.1 u.2.2 g) t.heap) (ft_A 292 ad)) 0 0 (ft_A 292 ad) := by
  refine Met.ofW (cc := cX2_giveBack) (maxL := 2) (ret := (some .boolean)) (by decide) rfl ?_
  intro p e s m args below meth c s₁ B hml hv
  obtain ⟨hargs, hP, hE, hD0⟩ := hv
  have hK := hE.1
  subst hargs
  have hx := B.exec
  have hb := B.bytes
  have hr := B.returns
  have hts := atoms_spec (ws := wsX2_giveBack) B.pre
  have hown : s.vm.findClass RX2 = some m.cls := findClass_of_methodNamed B.named
  have hlocks := B.notSynchronized
  have hD := ft_D_self hD0
  have hS : va_S (ft_A 292 ad) s.heap s.heap [] := va_S.rf
  have hl := lv_entry ([.ref (ad 254), .ref (ft_sq ad 0 0)]) (n := 2) (Nat.le_of_ble_eq_true rfl)
  rw [lg_entry_eq]
  generalize (lg_sl ([.ref (ad 254), .ref (ft_sq ad 0 0)]) ++ List.replicate (2 - (lg_sl ([.ref (ad 254), .ref (ft_sq ad 0 0)])).length) Slot.unset).toArray = ls at hl ⊢
  have hl : lv_has ls 2 [(0, .ref (ad 254)), (1, .ref (ft_sq ad 0 0))] := hl
  have hsp := (s_X2_giveBack.eq_1 q pm o ).symm
  refine lv_aload_n hx hb dX2_giveBack_0 rfl (lv_at hl 0 rfl) ?_
  refine va_get (D := dC) (ci := 4) (v := .int (o 3)) (C := RX2) (T := TX2) (N := 2) hx hb hts (by decide +kernel) hown hK.1 hP (253 + 1) (ft_get' (by decide) rfl) rfl 1 (by decide) (hts (.fieldLink RX2 18 "FoodTruckRota$History" "kept" "I") (by decide +kernel)) (fun _ h9 => h9) rfl dX2_giveBack_1 ?_
  refine lv_iconst (v := 1) hx hb dX2_giveBack_4 (by decide) ?_
  refine lv_icmp_lt (tgt := 17) hx hb dX2_giveBack_5 (by decide) (fun c_5 => ?_) (fun c_5 => ?_)
  · replace hsp := (if_pos c_5).symm.trans hsp
    refine lv_iconst (v := 0) hx hb dX2_giveBack_17 (by decide) ?_
    exact W.zret (v := 0) hx hb hr (rfl) (fun t ht hW => ⟨⟨0, (q, pm, o), rfl, hsp, ft_heap ht hP⟩, hS.F ht⟩) hS.2.2 dX2_giveBack_18
  · replace hsp := (if_neg c_5).symm.trans hsp
    refine lv_aload_n hx hb dX2_giveBack_8 rfl (lv_at hl 0 rfl) ?_
    refine va_get (D := dC) (ci := 4) (v := .int (o 3)) (C := RX2) (T := TX2) (N := 2) hx hb hts (by decide +kernel) hown hK.1 hP (253 + 1) (ft_get' (by decide) rfl) rfl 1 (by decide) (hts (.fieldLink RX2 18 "FoodTruckRota$History" "kept" "I") (by decide +kernel)) (fun _ h9 => h9) rfl dX2_giveBack_9 ?_
    refine lv_bipush (v := 8) hx hb dX2_giveBack_12 (by decide) ?_
    refine lv_icmp_le (tgt := 19) hx hb dX2_giveBack_14 (by decide) (fun c_14 => ?_) (fun c_14 => ?_)
    · replace hsp := (if_pos c_14).symm.trans hsp
      refine lv_aload_n hx hb dX2_giveBack_19 rfl (lv_at hl 0 rfl) ?_
      refine lv_dup hx hb dX2_giveBack_20 rfl ?_
      refine va_get (D := dC) (ci := 4) (v := .int (o 3)) (C := RX2) (T := TX2) (N := 2) hx hb hts (by decide +kernel) hown hK.1 hP (253 + 1) (ft_get' (by decide) rfl) rfl 1 (by decide) (hts (.fieldLink RX2 18 "FoodTruckRota$History" "kept" "I") (by decide +kernel)) (fun _ h9 => h9) rfl dX2_giveBack_21 ?_
      refine lv_iconst (v := 1) hx hb dX2_giveBack_24 (by decide) ?_
      refine lv_isub hx hb dX2_giveBack_25 ?_
      refine va_put (D := dC) (ci := 4) (v := .int ((o 3) - 1)) (ty := .int) (C := RX2) (T := TX2) (N := 2) hx hb hts (by decide +kernel) tyX2 tyX2_ok nmX2 hown hK.1 hP hD hS (253 + 1) (ft_get' (by decide) rfl) rfl 1 (by decide) (hts (.fieldLink RX2 18 "FoodTruckRota$History" "kept" "I") (by decide +kernel)) (fun _ h9 => h9) rfl (by decide +kernel) rfl rfl (Nat.le_of_ble_eq_true rfl) dX2_giveBack_26 (fun H locs hP hD hS => ?_)
      have hP := ft_cast hP (ft_R_p3)
      have hD := ft_castD hD (ft_R_p3)
      have hP : va_P dC vwCl (ft_WR ad k Z q pm (va_up o 3 ((o 3) - 1)) g) H := hP
      have hD : va_D (ft_A 292 ad) (ft_WR ad k Z q pm (va_up o 3 ((o 3) - 1)) g) := hD
      refine lv_aload_n hx hb dX2_giveBack_29 rfl (lv_at hl 1 rfl) ?_
      refine lv_aload_n hx hb dX2_giveBack_30 rfl (lv_at hl 0 rfl) ?_
      refine va_get (D := dC) (ci := 4) (v := .ref (ad 255)) (C := RX2) (T := TX2) (N := 2) hx hb hts (by decide +kernel) hown hK.1 hP (253 + 1) (ft_get' (by decide) rfl) rfl 0 (by decide) (hts (.fieldLink RX2 11 "FoodTruckRota$History" "earlier" "[LFoodTruckRota$Square;") (by decide +kernel)) (fun _ h9 => h9) rfl dX2_giveBack_31 ?_
      refine lv_aload_n hx hb dX2_giveBack_34 rfl (lv_at hl 0 rfl) ?_
      refine va_get (D := dC) (ci := 4) (v := .int ((va_up o 3 ((o 3) - 1)) 3)) (C := RX2) (T := TX2) (N := 2) hx hb hts (by decide +kernel) hown hK.1 hP (253 + 1) (ft_get' (by decide) rfl) rfl 1 (by decide) (hts (.fieldLink RX2 18 "FoodTruckRota$History" "kept" "I") (by decide +kernel)) (fun _ h9 => h9) rfl dX2_giveBack_35 ?_
      have h_38 : vp_in ((va_up o 3 ((o 3) - 1)) 3) 8 := by exact in_gb (by assumption) (by assumption)
      refine va_aldq (C := RX4) hx hb hK.1 hP (253 + 2) 2 (ft_get' (by decide) rfl) rfl h_38 dX2_giveBack_38 ?_
      refine W.eq (g2 := F0 m 39 ls [.ref (ft_sq ad (3 + pm (tn ((va_up o 3 ((o 3) - 1)) 3))) 0), .ref (ft_sq ad 0 0)]) rfl ?_
      refine va_callv (va_runV (As := [.ref (ft_sq ad (3 + pm (tn ((va_up o 3 ((o 3) - 1)) 3))) 0)]) (rest := []) ⟨hx, hb, hml, hown, hts⟩ (c_X4_copyFrom l dC (ft_sq ad 0) k (q 0) (ft_sq ad (3 + pm (tn ((va_up o 3 ((o 3) - 1)) 3)))) (q (3 + pm (tn ((va_up o 3 ((o 3) - 1)) 3))))) (cwV 1 hts gX2_giveBack_X4_copyFrom rfl rfl rfl (by decide +kernel) ⟨Nat.le_of_ble_eq_true rfl, Nat.le_of_ble_eq_true rfl⟩) (ft_preVd hK (ft_R_P2 hP (a := 0) (b := (3 + pm (tn ((va_up o 3 ((o 3) - 1)) 3)))) (by decide) (by have := hpm _ (ft_tn h_38); omega)) (ft_R_D2 hD (a := 0) (b := (3 + pm (tn ((va_up o 3 ((o 3) - 1)) 3)))) (by decide) (by have := hpm _ (ft_tn h_38); omega) (by omega)) (ci := 6) rfl (ft_get' (by decide) rfl)) rfl rfl hl.1 rfl (lv_room (Nat.le_of_ble_eq_true rfl)) dX2_giveBack_39 ⟨Nat.le_of_ble_eq_true rfl, Nat.le_of_ble_eq_true rfl⟩) hS (fun z9 _ h => ft_R_A2 (a := 0) (b := (3 + pm (tn ((va_up o 3 ((o 3) - 1)) 3)))) (by decide) (by have := hpm _ (ft_tn h_38); omega) z9 h) (fun z9 h => ft_R_A2 (a := 0) (b := (3 + pm (tn ((va_up o 3 ((o 3) - 1)) 3)))) (by decide) (by have := hpm _ (ft_tn h_38); omega) z9 h) (fun u t H1 locs ht hvm hw hB hz1 hk1 hS => ?_)
      subst hw
      rw [ht] at hB
      have hP : va_P dC vwCl (ft_WR ad k Z (va_up q 0 (s_X4_copyFrom (q 0) (q (3 + pm (tn ((va_up o 3 ((o 3) - 1)) 3)))))) pm (va_up o 3 ((o 3) - 1)) g) H1 := ft_R_join2 hP hD (a := 0) (b := (3 + pm (tn ((va_up o 3 ((o 3) - 1)) 3)))) (by decide) (by have := hpm _ (ft_tn h_38); omega) (by omega) hk1 hB
      have hD : va_D (ft_A 292 ad) (ft_WR ad k Z (va_up q 0 (s_X4_copyFrom (q 0) (q (3 + pm (tn ((va_up o 3 ((o 3) - 1)) 3)))))) pm (va_up o 3 ((o 3) - 1)) g) := ft_D_va hD _
      generalize H1 = H at hP hS ⊢
      refine lv_iconst (v := 1) hx hb dX2_giveBack_42 (by decide) ?_
      exact W.zret (v := 1) hx hb hr (rfl) (fun t ht hW => ⟨⟨1, (va_up q 0 (s_X4_copyFrom (q 0) (q (3 + pm (tn ((va_up o 3 ((o 3) - 1)) 3))))), pm, va_up o 3 ((o 3) - 1)), rfl, hsp, ft_heap ht hP⟩, hS.F ht⟩) hS.2.2 dX2_giveBack_43
    · replace hsp := (if_neg c_14).symm.trans hsp
      refine lv_iconst (v := 0) hx hb dX2_giveBack_17 (by decide) ?_
      exact W.zret (v := 0) hx hb hr (rfl) (fun t ht hW => ⟨⟨0, (q, pm, o), rfl, hsp, ft_heap ht hP⟩, hS.F ht⟩) hS.2.2 dX2_giveBack_18

def s_X7_save (q : Nat → Nat → Int32) (pm : Nat → Nat) (o : Nat → Int32)  : Int32 × ft_St := ((va_up q 2 (s_X4_copyFrom (q 2) (q 0))) 0 0, (va_up q 2 (s_X4_copyFrom (q 2) (q 0)), pm, va_up o 0 1))
set_option maxHeartbeats 4000000 in
set_option maxRecDepth 100000 in
theorem c_X7_save (l : Launch) (dC : va_G) (Z : Nat → Nat → Nat) (ad : Nat → Nat) (k : Nat → ClassId) (q : Nat → Nat → Int32) (pm : Nat → Nat) (o : Nat → Int32) (g : ft_G)  : Met l yX7_save wsX7_save ({ frames := 3, cells := 0, slots := 0, locals := 103 }) (ft_Pf dC k Z (ft_A 292 ad) [.ref (ad 253)] (ft_WR ad k Z q pm o g)) (va_Qi (fun (z : Int32) (u : ft_St) => (z, u) = s_X7_save q pm o) (fun (u : ft_St) (t : State) => va_P dC vwCl (ft_WR ad k Z u.1 u.2.1 u.2.2 g) t.heap) (ft_A 292 ad)) 0 0 (ft_A 292 ad) := by
  refine Met.ofW (cc := cX7_save) (maxL := 1) (ret := (some .int)) (by decide) rfl ?_
  intro p e s m args below meth c s₁ B hml hv
  obtain ⟨hargs, hP, hE, hD0⟩ := hv
  have hK := hE.1
  subst hargs
  have hx := B.exec
  have hb := B.bytes
  have hr := B.returns
  have hts := atoms_spec (ws := wsX7_save) B.pre
  have hown : s.vm.findClass RX7 = some m.cls := findClass_of_methodNamed B.named
  have hlocks := B.notSynchronized
  have hD := ft_D_self hD0
  have hS : va_S (ft_A 292 ad) s.heap s.heap [] := va_S.rf
  have hl := lv_entry ([.ref (ad 253)]) (n := 1) (Nat.le_of_ble_eq_true rfl)
  rw [lg_entry_eq]
  generalize (lg_sl ([.ref (ad 253)]) ++ List.replicate (1 - (lg_sl ([.ref (ad 253)])).length) Slot.unset).toArray = ls at hl ⊢
  have hl : lv_has ls 1 [(0, .ref (ad 253))] := hl
  have hsp := (s_X7_save.eq_1 q pm o ).symm
  refine lv_aload_n hx hb dX7_save_0 rfl (lv_at hl 0 rfl) ?_
  refine va_get (D := dC) (ci := 9) (v := .ref (ft_sq ad 2 0)) (C := RX7) (T := TX7) (N := 9) hx hb hts (by decide +kernel) hown hK.1 hP (253 + 0) (ft_get' (by decide) rfl) rfl 2 (by decide) (hts (.fieldLink RX7 19 "FoodTruckRota" "snapshot" "LFoodTruckRota$Square;") (by decide +kernel)) (fun _ h9 => h9) rfl dX7_save_1 ?_
  refine lv_aload_n hx hb dX7_save_4 rfl (lv_at hl 0 rfl) ?_
  refine va_get (D := dC) (ci := 9) (v := .ref (ft_sq ad 0 0)) (C := RX7) (T := TX7) (N := 9) hx hb hts (by decide +kernel) hown hK.1 hP (253 + 0) (ft_get' (by decide) rfl) rfl 0 (by decide) (hts (.fieldLink RX7 12 "FoodTruckRota" "square" "LFoodTruckRota$Square;") (by decide +kernel)) (fun _ h9 => h9) rfl dX7_save_5 ?_
  refine va_callv (va_runV (As := [.ref (ft_sq ad 0 0)]) (rest := []) ⟨hx, hb, hml, hown, hts⟩ (c_X4_copyFrom l dC (ft_sq ad 2) k (q 2) (ft_sq ad 0) (q 0)) (cwV 1 hts gX7_save_X4_copyFrom rfl rfl rfl (by decide +kernel) ⟨Nat.le_of_ble_eq_true rfl, Nat.le_of_ble_eq_true rfl⟩) (ft_preVd hK (ft_R_P2 hP (a := 2) (b := 0) (by decide) (by decide)) (ft_R_D2 hD (a := 2) (b := 0) (by decide) (by decide) (by omega)) (ci := 6) rfl (ft_get' (by decide) rfl)) rfl rfl hl.1 rfl (lv_room (Nat.le_of_ble_eq_true rfl)) dX7_save_8 ⟨Nat.le_of_ble_eq_true rfl, Nat.le_of_ble_eq_true rfl⟩) hS (fun z9 _ h => ft_R_A2 (a := 2) (b := 0) (by decide) (by decide) z9 h) (fun z9 h => ft_R_A2 (a := 2) (b := 0) (by decide) (by decide) z9 h) (fun u t H1 locs ht hvm hw hB hz1 hk1 hS => ?_)
  subst hw
  rw [ht] at hB
  have hP : va_P dC vwCl (ft_WR ad k Z (va_up q 2 (s_X4_copyFrom (q 2) (q 0))) pm o g) H1 := ft_R_join2 hP hD (a := 2) (b := 0) (by decide) (by decide) (by omega) hk1 hB
  have hD : va_D (ft_A 292 ad) (ft_WR ad k Z (va_up q 2 (s_X4_copyFrom (q 2) (q 0))) pm o g) := ft_D_va hD _
  generalize H1 = H at hP hS ⊢
  refine lv_aload_n hx hb dX7_save_11 rfl (lv_at hl 0 rfl) ?_
  refine lv_iconst (v := 1) hx hb dX7_save_12 (by decide) ?_
  refine va_put (D := dC) (ci := 9) (v := .int (1)) (ty := .boolean) (C := RX7) (T := TX7) (N := 9) hx hb hts (by decide +kernel) tyX7 tyX7_ok nmX7 hown hK.1 hP hD hS (253 + 0) (ft_get' (by decide) rfl) rfl 6 (by decide) (hts (.fieldLink RX7 292 "FoodTruckRota" "saved" "Z") (by decide +kernel)) (fun _ h9 => h9) rfl (by decide +kernel) rfl rfl (Nat.le_of_ble_eq_true rfl) dX7_save_13 (fun H locs hP hD hS => ?_)
  have hP := ft_cast hP (ft_R_p0)
  have hD := ft_castD hD (ft_R_p0)
  have hP : va_P dC vwCl (ft_WR ad k Z (va_up q 2 (s_X4_copyFrom (q 2) (q 0))) pm (va_up o 0 1) g) H := hP
  have hD : va_D (ft_A 292 ad) (ft_WR ad k Z (va_up q 2 (s_X4_copyFrom (q 2) (q 0))) pm (va_up o 0 1) g) := hD
  refine lv_aload_n hx hb dX7_save_16 rfl (lv_at hl 0 rfl) ?_
  refine va_get (D := dC) (ci := 9) (v := .ref (ft_sq ad 0 0)) (C := RX7) (T := TX7) (N := 9) hx hb hts (by decide +kernel) hown hK.1 hP (253 + 0) (ft_get' (by decide) rfl) rfl 0 (by decide) (hts (.fieldLink RX7 12 "FoodTruckRota" "square" "LFoodTruckRota$Square;") (by decide +kernel)) (fun _ h9 => h9) rfl dX7_save_17 ?_
  refine va_getN (D := dC) (ci := 6) (v := .int ((va_up q 2 (s_X4_copyFrom (q 2) (q 0))) 0 0)) (C := RX4) (T := TX4) (N := 12) hx hb hts (by decide +kernel) hown hK.1 (ft_R_S hP (s := 0) (by decide)) 0 (ft_get' (by decide) rfl) rfl 4 (by decide) (ft_nl hK.2 11 rfl) (fun _ h9 => h9) rfl dX7_save_20 ?_
  exact W.iret (v := (va_up q 2 (s_X4_copyFrom (q 2) (q 0))) 0 0) hx hb hr (fun t ht hW => ⟨⟨(va_up q 2 (s_X4_copyFrom (q 2) (q 0))) 0 0, (va_up q 2 (s_X4_copyFrom (q 2) (q 0)), pm, va_up o 0 1), rfl, hsp, ft_heap ht hP⟩, hS.F ht⟩) hS.2.2 dX7_save_23

def s_X7_servedWithin (q : Nat → Nat → Int32) (pm : Nat → Nat) (o : Nat → Int32) (x1 : Int32) : Except String Int32 × ft_St := if x1 < 0 then ((.error "java/lang/IllegalArgumentException", (q, pm, o))) else (if x1 ≤ 60 then ((.ok ((s_X4_passMinutes ((va_up q 1 (s_X4_copyFrom (q 1) (q 0))) 1) x1).1), (va_up (va_up q 1 (s_X4_copyFrom (q 1) (q 0))) 1 ((s_X4_passMinutes ((va_up q 1 (s_X4_copyFrom (q 1) (q 0))) 1) x1).2), pm, o))) else ((.error "java/lang/IllegalArgumentException", (q, pm, o))))
set_option maxHeartbeats 4000000 in
set_option maxRecDepth 100000 in
theorem c_X7_servedWithin (l : Launch) (hl0 : l.stackTraces = false) (dC : va_G) (Z : Nat → Nat → Nat) (ad : Nat → Nat) (k : Nat → ClassId) (q : Nat → Nat → Int32) (pm : Nat → Nat) (o : Nat → Int32) (g : ft_G) (x1 : Int32) : vx_Met l yX7_servedWithin wsX7_servedWithin ({ frames := 6, cells := 1, slots := 6, locals := 112 }) (ft_Pf dC k Z (ft_A 292 ad) [.ref (ad 253), .int x1] (ft_WR ad k Z q pm o g)) (va_Qi (fun (z : Int32) (u : ft_St) => (.ok z, u) = s_X7_servedWithin q pm o x1) (fun (u : ft_St) (t : State) => va_P dC vwCl (ft_WR ad k Z u.1 u.2.1 u.2.2 g) t.heap) (ft_A 292 ad)) (vx_X (fun (_ : ft_St) => True) (fun (E : String) (u : ft_St) (t : State) => (.error E, u) = s_X7_servedWithin q pm o x1 ∧ va_P dC vwCl (ft_WR ad k Z u.1 u.2.1 u.2.2 g) t.heap) (ft_A 292 ad)) 1 6 (ft_A 292 ad) := by
  refine vx_ofW (cc := cX7_servedWithin) (maxL := 2) (ret := (some .int)) (by decide) rfl ?_
  intro p e s m args below meth c s₁ B hml hnt hv
  obtain ⟨hargs, hP, hE, hD0⟩ := hv
  have hK := hE.1
  subst hargs
  have hx := B.exec
  have hb := B.bytes
  have hr := B.returns
  have hts := atoms_spec (ws := wsX7_servedWithin) B.pre
  have hown : s.vm.findClass RX7 = some m.cls := findClass_of_methodNamed B.named
  have hlocks := B.notSynchronized
  have hD := ft_D_self hD0
  have hS : va_S (ft_A 292 ad) s.heap s.heap [] := va_S.rf
  have hl := lv_entry ([.ref (ad 253), .int x1]) (n := 2) (Nat.le_of_ble_eq_true rfl)
  rw [lg_entry_eq]
  generalize (lg_sl ([.ref (ad 253), .int x1]) ++ List.replicate (2 - (lg_sl ([.ref (ad 253), .int x1])).length) Slot.unset).toArray = ls at hl ⊢
  have hl : lv_has ls 2 [(0, .ref (ad 253)), (1, .int (x1))] := hl
  have hsp := (s_X7_servedWithin.eq_1 q pm o x1).symm
  refine lv_iload_n hx hb dX7_servedWithin_0 rfl (lv_at hl 1 rfl) ?_
  refine lv_if_lt (tgt := 10) hx hb dX7_servedWithin_1 (by decide) (fun c_1 => ?_) (fun c_1 => ?_)
  · replace hsp := (if_pos c_1).symm.trans hsp
    obtain ⟨sa, hsa⟩ := hE.2.1.2.1 (RX7, 158, "minutes is not between 0 and 60") (List.mem_of_getElem? (i := 19) rfl)
    exact vx_throwS (text := "minutes is not between 0 and 60") (names := ["java/lang/RuntimeException", "java/lang/Exception"]) hx hb hl0 hown (by decide +kernel) (by decide +kernel) (hts (.classLink RX7 156 "java/lang/IllegalArgumentException") (by decide +kernel)) (hts (.initialized "java/lang/IllegalArgumentException") (by decide +kernel)) hsa (vx_hat (fun w h => hts w (List.mem_cons_of_mem _ (List.mem_append_left _ (List.mem_append_right _ h)))) (by decide +kernel) (ft_xw hE "java/lang/IllegalArgumentException" (by decide +kernel))) (by decide +kernel) hE.2.2.us hE.2.2.ss hS (hl.1.trans hml.symm) dX7_servedWithin_10 dX7_servedWithin_13 dX7_servedWithin_14 dX7_servedWithin_16 dX7_servedWithin_19 (fun x hx9 => (hnt x hx9).elim) (Nat.le_of_ble_eq_true rfl) (Nat.le_of_ble_eq_true rfl) (Nat.le_of_ble_eq_true rfl) (Nat.le_of_ble_eq_true rfl) hlocks (fun t _ h1 h2 => ⟨(q, pm, o), trivial, ⟨hsp, ft_heap2 hP h2⟩, ft_Fa hS h1 h2⟩) hS.2.2 (by decide) (by decide)
  · replace hsp := (if_neg c_1).symm.trans hsp
    refine lv_iload_n hx hb dX7_servedWithin_4 rfl (lv_at hl 1 rfl) ?_
    refine lv_bipush (v := 60) hx hb dX7_servedWithin_5 (by decide) ?_
    refine lv_icmp_le (tgt := 20) hx hb dX7_servedWithin_7 (by decide) (fun c_7 => ?_) (fun c_7 => ?_)
    · replace hsp := (if_pos c_7).symm.trans hsp
      refine lv_aload_n hx hb dX7_servedWithin_20 rfl (lv_at hl 0 rfl) ?_
      refine va_get (D := dC) (ci := 9) (v := .ref (ft_sq ad 1 0)) (C := RX7) (T := TX7) (N := 9) hx hb hts (by decide +kernel) hown hK.1 hP (253 + 0) (ft_get' (by decide) rfl) rfl 1 (by decide) (hts (.fieldLink RX7 16 "FoodTruckRota" "draft" "LFoodTruckRota$Square;") (by decide +kernel)) (fun _ h9 => h9) rfl dX7_servedWithin_21 ?_
      refine lv_aload_n hx hb dX7_servedWithin_24 rfl (lv_at hl 0 rfl) ?_
      refine va_get (D := dC) (ci := 9) (v := .ref (ft_sq ad 0 0)) (C := RX7) (T := TX7) (N := 9) hx hb hts (by decide +kernel) hown hK.1 hP (253 + 0) (ft_get' (by decide) rfl) rfl 0 (by decide) (hts (.fieldLink RX7 12 "FoodTruckRota" "square" "LFoodTruckRota$Square;") (by decide +kernel)) (fun _ h9 => h9) rfl dX7_servedWithin_25 ?_
      refine va_callv (va_runV (As := [.ref (ft_sq ad 0 0)]) (rest := []) ⟨hx, hb, hml, hown, hts⟩ (c_X4_copyFrom l dC (ft_sq ad 1) k (q 1) (ft_sq ad 0) (q 0)) (cwV 1 hts gX7_servedWithin_X4_copyFrom rfl rfl rfl (by decide +kernel) ⟨Nat.le_of_ble_eq_true rfl, Nat.le_of_ble_eq_true rfl⟩) (ft_preVd hK (ft_R_P2 hP (a := 1) (b := 0) (by decide) (by decide)) (ft_R_D2 hD (a := 1) (b := 0) (by decide) (by decide) (by omega)) (ci := 6) rfl (ft_get' (by decide) rfl)) rfl rfl hl.1 rfl (lv_room (Nat.le_of_ble_eq_true rfl)) dX7_servedWithin_28 ⟨Nat.le_of_ble_eq_true rfl, Nat.le_of_ble_eq_true rfl⟩) hS (fun z9 _ h => ft_R_A2 (a := 1) (b := 0) (by decide) (by decide) z9 h) (fun z9 h => ft_R_A2 (a := 1) (b := 0) (by decide) (by decide) z9 h) (fun u t H1 locs ht hvm hw hB hz1 hk1 hS => ?_)
      subst hw
      rw [ht] at hB
      have hP : va_P dC vwCl (ft_WR ad k Z (va_up q 1 (s_X4_copyFrom (q 1) (q 0))) pm o g) H1 := ft_R_join2 hP hD (a := 1) (b := 0) (by decide) (by decide) (by omega) hk1 hB
      have hD : va_D (ft_A 292 ad) (ft_WR ad k Z (va_up q 1 (s_X4_copyFrom (q 1) (q 0))) pm o g) := ft_D_va hD _
      generalize H1 = H at hP hS ⊢
      refine lv_aload_n hx hb dX7_servedWithin_31 rfl (lv_at hl 0 rfl) ?_
      refine va_get (D := dC) (ci := 9) (v := .ref (ft_sq ad 1 0)) (C := RX7) (T := TX7) (N := 9) hx hb hts (by decide +kernel) hown hK.1 hP (253 + 0) (ft_get' (by decide) rfl) rfl 1 (by decide) (hts (.fieldLink RX7 16 "FoodTruckRota" "draft" "LFoodTruckRota$Square;") (by decide +kernel)) (fun _ h9 => h9) rfl dX7_servedWithin_32 ?_
      refine lv_iload_n hx hb dX7_servedWithin_35 rfl (lv_at hl 1 rfl) ?_
      refine va_calli (va_runV (As := [.int (x1)]) (rest := []) ⟨hx, hb, hml, hown, hts⟩ (c_X4_passMinutes l dC (ft_sq ad 1) k ((va_up q 1 (s_X4_copyFrom (q 1) (q 0))) 1) x1) (cwV 1 hts gX7_servedWithin_X4_passMinutes rfl rfl rfl (by decide +kernel) ⟨Nat.le_of_ble_eq_true rfl, Nat.le_of_ble_eq_true rfl⟩) (ft_preVd hK (ft_R_S hP (s := 1) (by decide)) (ft_R_D hD (s := 1) (by decide)) (ci := 6) rfl (ft_get' (by decide) rfl)) rfl rfl hl.1 rfl (lv_room (Nat.le_of_ble_eq_true rfl)) dX7_servedWithin_36 ⟨Nat.le_of_ble_eq_true rfl, Nat.le_of_ble_eq_true rfl⟩) hS (fun z9 _ h => ft_R_A (s := 1) (by decide) z9 h) (fun z9 h => ft_R_A (s := 1) (by decide) z9 h) (fun z u t H1 locs ht hvm hw hB hz1 hk1 hS => ?_)
      obtain ⟨rfl, rfl⟩ : z = (s_X4_passMinutes ((va_up q 1 (s_X4_copyFrom (q 1) (q 0))) 1) x1).1 ∧ u = (s_X4_passMinutes ((va_up q 1 (s_X4_copyFrom (q 1) (q 0))) 1) x1).2 := ⟨congrArg Prod.fst hw, congrArg Prod.snd hw⟩
      rw [ht] at hB
      have hP : va_P dC vwCl (ft_WR ad k Z (va_up (va_up q 1 (s_X4_copyFrom (q 1) (q 0))) 1 ((s_X4_passMinutes ((va_up q 1 (s_X4_copyFrom (q 1) (q 0))) 1) x1).2)) pm o g) H1 := ft_R_join hP hD (s := 1) (by decide) hk1 hB
      have hD : va_D (ft_A 292 ad) (ft_WR ad k Z (va_up (va_up q 1 (s_X4_copyFrom (q 1) (q 0))) 1 ((s_X4_passMinutes ((va_up q 1 (s_X4_copyFrom (q 1) (q 0))) 1) x1).2)) pm o g) := ft_D_va hD _
      generalize H1 = H at hP hS ⊢
      refine vx_ret ?_
      refine W.widen (k := 1) (n := 6) (by decide) (by decide) ?_
      exact W.iret (v := (s_X4_passMinutes ((va_up q 1 (s_X4_copyFrom (q 1) (q 0))) 1) x1).1) hx hb hr (fun t ht hW => ⟨⟨(s_X4_passMinutes ((va_up q 1 (s_X4_copyFrom (q 1) (q 0))) 1) x1).1, (va_up (va_up q 1 (s_X4_copyFrom (q 1) (q 0))) 1 ((s_X4_passMinutes ((va_up q 1 (s_X4_copyFrom (q 1) (q 0))) 1) x1).2), pm, o), rfl, hsp, ft_heap ht hP⟩, hS.F ht⟩) hS.2.2 dX7_servedWithin_39
    · replace hsp := (if_neg c_7).symm.trans hsp
      obtain ⟨sa, hsa⟩ := hE.2.1.2.1 (RX7, 158, "minutes is not between 0 and 60") (List.mem_of_getElem? (i := 19) rfl)
      exact vx_throwS (text := "minutes is not between 0 and 60") (names := ["java/lang/RuntimeException", "java/lang/Exception"]) hx hb hl0 hown (by decide +kernel) (by decide +kernel) (hts (.classLink RX7 156 "java/lang/IllegalArgumentException") (by decide +kernel)) (hts (.initialized "java/lang/IllegalArgumentException") (by decide +kernel)) hsa (vx_hat (fun w h => hts w (List.mem_cons_of_mem _ (List.mem_append_left _ (List.mem_append_right _ h)))) (by decide +kernel) (ft_xw hE "java/lang/IllegalArgumentException" (by decide +kernel))) (by decide +kernel) hE.2.2.us hE.2.2.ss hS (hl.1.trans hml.symm) dX7_servedWithin_10 dX7_servedWithin_13 dX7_servedWithin_14 dX7_servedWithin_16 dX7_servedWithin_19 (fun x hx9 => (hnt x hx9).elim) (Nat.le_of_ble_eq_true rfl) (Nat.le_of_ble_eq_true rfl) (Nat.le_of_ble_eq_true rfl) (Nat.le_of_ble_eq_true rfl) hlocks (fun t _ h1 h2 => ⟨(q, pm, o), trivial, ⟨hsp, ft_heap2 hP h2⟩, ft_Fa hS h1 h2⟩) hS.2.2 (by decide) (by decide)

def s_X7_restore (q : Nat → Nat → Int32) (pm : Nat → Nat) (o : Nat → Int32)  : Except String Int32 × ft_St := if (o 0) = 0 then ((.error "java/lang/IllegalStateException", (q, pm, o))) else ((.ok ((va_up q 0 (s_X4_copyFrom (q 0) (q 2))) 0 0), (va_up q 0 (s_X4_copyFrom (q 0) (q 2)), pm, va_up o 3 0)))
set_option maxHeartbeats 4000000 in
set_option maxRecDepth 100000 in
theorem c_X7_restore (l : Launch) (hl0 : l.stackTraces = false) (dC : va_G) (Z : Nat → Nat → Nat) (ad : Nat → Nat) (k : Nat → ClassId) (q : Nat → Nat → Int32) (pm : Nat → Nat) (o : Nat → Int32) (g : ft_G)  : vx_Met l yX7_restore wsX7_restore ({ frames := 6, cells := 1, slots := 6, locals := 103 }) (ft_Pf dC k Z (ft_A 292 ad) [.ref (ad 253)] (ft_WR ad k Z q pm o g)) (va_Qi (fun (z : Int32) (u : ft_St) => (.ok z, u) = s_X7_restore q pm o) (fun (u : ft_St) (t : State) => va_P dC vwCl (ft_WR ad k Z u.1 u.2.1 u.2.2 g) t.heap) (ft_A 292 ad)) (vx_X (fun (_ : ft_St) => True) (fun (E : String) (u : ft_St) (t : State) => (.error E, u) = s_X7_restore q pm o ∧ va_P dC vwCl (ft_WR ad k Z u.1 u.2.1 u.2.2 g) t.heap) (ft_A 292 ad)) 1 6 (ft_A 292 ad) := by
  refine vx_ofW (cc := cX7_restore) (maxL := 1) (ret := (some .int)) (by decide) rfl ?_
  intro p e s m args below meth c s₁ B hml hnt hv
  obtain ⟨hargs, hP, hE, hD0⟩ := hv
  have hK := hE.1
  subst hargs
  have hx := B.exec
  have hb := B.bytes
  have hr := B.returns
  have hts := atoms_spec (ws := wsX7_restore) B.pre
  have hown : s.vm.findClass RX7 = some m.cls := findClass_of_methodNamed B.named
  have hlocks := B.notSynchronized
  have hD := ft_D_self hD0
  have hS : va_S (ft_A 292 ad) s.heap s.heap [] := va_S.rf
  have hl := lv_entry ([.ref (ad 253)]) (n := 1) (Nat.le_of_ble_eq_true rfl)
  rw [lg_entry_eq]
  generalize (lg_sl ([.ref (ad 253)]) ++ List.replicate (1 - (lg_sl ([.ref (ad 253)])).length) Slot.unset).toArray = ls at hl ⊢
  have hl : lv_has ls 1 [(0, .ref (ad 253))] := hl
  have hsp := (s_X7_restore.eq_1 q pm o ).symm
  refine lv_aload_n hx hb dX7_restore_0 rfl (lv_at hl 0 rfl) ?_
  refine va_get (D := dC) (ci := 9) (v := .int (o 0)) (C := RX7) (T := TX7) (N := 9) hx hb hts (by decide +kernel) hown hK.1 hP (253 + 0) (ft_get' (by decide) rfl) rfl 6 (by decide) (hts (.fieldLink RX7 292 "FoodTruckRota" "saved" "Z") (by decide +kernel)) (fun _ h9 => h9) rfl dX7_restore_1 ?_
  refine lv_if_ne (tgt := 18) hx hb dX7_restore_4 (by decide) (fun c_4 => ?_) (fun c_4 => ?_)
  · replace hsp := (if_neg c_4).symm.trans hsp
    refine lv_aload_n hx hb dX7_restore_18 rfl (lv_at hl 0 rfl) ?_
    refine va_get (D := dC) (ci := 9) (v := .ref (ft_sq ad 0 0)) (C := RX7) (T := TX7) (N := 9) hx hb hts (by decide +kernel) hown hK.1 hP (253 + 0) (ft_get' (by decide) rfl) rfl 0 (by decide) (hts (.fieldLink RX7 12 "FoodTruckRota" "square" "LFoodTruckRota$Square;") (by decide +kernel)) (fun _ h9 => h9) rfl dX7_restore_19 ?_
    refine lv_aload_n hx hb dX7_restore_22 rfl (lv_at hl 0 rfl) ?_
    refine va_get (D := dC) (ci := 9) (v := .ref (ft_sq ad 2 0)) (C := RX7) (T := TX7) (N := 9) hx hb hts (by decide +kernel) hown hK.1 hP (253 + 0) (ft_get' (by decide) rfl) rfl 2 (by decide) (hts (.fieldLink RX7 19 "FoodTruckRota" "snapshot" "LFoodTruckRota$Square;") (by decide +kernel)) (fun _ h9 => h9) rfl dX7_restore_23 ?_
    refine va_callv (va_runV (As := [.ref (ft_sq ad 2 0)]) (rest := []) ⟨hx, hb, hml, hown, hts⟩ (c_X4_copyFrom l dC (ft_sq ad 0) k (q 0) (ft_sq ad 2) (q 2)) (cwV 1 hts gX7_restore_X4_copyFrom rfl rfl rfl (by decide +kernel) ⟨Nat.le_of_ble_eq_true rfl, Nat.le_of_ble_eq_true rfl⟩) (ft_preVd hK (ft_R_P2 hP (a := 0) (b := 2) (by decide) (by decide)) (ft_R_D2 hD (a := 0) (b := 2) (by decide) (by decide) (by omega)) (ci := 6) rfl (ft_get' (by decide) rfl)) rfl rfl hl.1 rfl (lv_room (Nat.le_of_ble_eq_true rfl)) dX7_restore_26 ⟨Nat.le_of_ble_eq_true rfl, Nat.le_of_ble_eq_true rfl⟩) hS (fun z9 _ h => ft_R_A2 (a := 0) (b := 2) (by decide) (by decide) z9 h) (fun z9 h => ft_R_A2 (a := 0) (b := 2) (by decide) (by decide) z9 h) (fun u t H1 locs ht hvm hw hB hz1 hk1 hS => ?_)
    subst hw
    rw [ht] at hB
    have hP : va_P dC vwCl (ft_WR ad k Z (va_up q 0 (s_X4_copyFrom (q 0) (q 2))) pm o g) H1 := ft_R_join2 hP hD (a := 0) (b := 2) (by decide) (by decide) (by omega) hk1 hB
    have hD : va_D (ft_A 292 ad) (ft_WR ad k Z (va_up q 0 (s_X4_copyFrom (q 0) (q 2))) pm o g) := ft_D_va hD _
    generalize H1 = H at hP hS ⊢
    refine lv_aload_n hx hb dX7_restore_29 rfl (lv_at hl 0 rfl) ?_
    refine va_get (D := dC) (ci := 9) (v := .ref (ad 254)) (C := RX7) (T := TX7) (N := 9) hx hb hts (by decide +kernel) hown hK.1 hP (253 + 0) (ft_get' (by decide) rfl) rfl 3 (by decide) (hts (.fieldLink RX7 25 "FoodTruckRota" "history" "LFoodTruckRota$History;") (by decide +kernel)) (fun _ h9 => h9) rfl dX7_restore_30 ?_
    refine lv_iconst (v := 0) hx hb dX7_restore_33 (by decide) ?_
    refine va_putN (D := dC) (ci := 4) (v := .int (0)) (ty := .int) (C := RX2) (T := TX2) (N := 2) hx hb hts (by decide +kernel) tyX2 tyX2_ok nmX2 hown hK.1 hP hD hS (253 + 1) (ft_get' (by decide) rfl) rfl 1 (by decide) (ft_nl hK.2 19 rfl) (fun _ h9 => h9) rfl (by decide +kernel) rfl rfl (Nat.le_of_ble_eq_true rfl) dX7_restore_34 (fun H locs hP hD hS => ?_)
    have hP := ft_cast hP (ft_R_p3)
    have hD := ft_castD hD (ft_R_p3)
    have hP : va_P dC vwCl (ft_WR ad k Z (va_up q 0 (s_X4_copyFrom (q 0) (q 2))) pm (va_up o 3 0) g) H := hP
    have hD : va_D (ft_A 292 ad) (ft_WR ad k Z (va_up q 0 (s_X4_copyFrom (q 0) (q 2))) pm (va_up o 3 0) g) := hD
    refine lv_aload_n hx hb dX7_restore_37 rfl (lv_at hl 0 rfl) ?_
    refine va_get (D := dC) (ci := 9) (v := .ref (ft_sq ad 0 0)) (C := RX7) (T := TX7) (N := 9) hx hb hts (by decide +kernel) hown hK.1 hP (253 + 0) (ft_get' (by decide) rfl) rfl 0 (by decide) (hts (.fieldLink RX7 12 "FoodTruckRota" "square" "LFoodTruckRota$Square;") (by decide +kernel)) (fun _ h9 => h9) rfl dX7_restore_38 ?_
    refine va_getN (D := dC) (ci := 6) (v := .int ((va_up q 0 (s_X4_copyFrom (q 0) (q 2))) 0 0)) (C := RX4) (T := TX4) (N := 12) hx hb hts (by decide +kernel) hown hK.1 (ft_R_S hP (s := 0) (by decide)) 0 (ft_get' (by decide) rfl) rfl 4 (by decide) (ft_nl hK.2 11 rfl) (fun _ h9 => h9) rfl dX7_restore_41 ?_
    refine vx_ret ?_
    refine W.widen (k := 1) (n := 6) (by decide) (by decide) ?_
    exact W.iret (v := (va_up q 0 (s_X4_copyFrom (q 0) (q 2))) 0 0) hx hb hr (fun t ht hW => ⟨⟨(va_up q 0 (s_X4_copyFrom (q 0) (q 2))) 0 0, (va_up q 0 (s_X4_copyFrom (q 0) (q 2)), pm, va_up o 3 0), rfl, hsp, ft_heap ht hP⟩, hS.F ht⟩) hS.2.2 dX7_restore_44
  · replace hsp := (if_pos c_4).symm.trans hsp
    obtain ⟨sa, hsa⟩ := hE.2.1.2.1 (RX7, 296, "there is no snapshot") (List.mem_of_getElem? (i := 9) rfl)
    exact vx_throwSW (text := "there is no snapshot") (names := ["java/lang/RuntimeException", "java/lang/Exception"]) hx hb hl0 hown (by decide +kernel) (by decide +kernel) (hts (.classLink RX7 244 "java/lang/IllegalStateException") (by decide +kernel)) (hts (.initialized "java/lang/IllegalStateException") (by decide +kernel)) hsa (vx_hat (fun w h => hts w (List.mem_cons_of_mem _ (List.mem_append_right _ h))) (by decide +kernel) (ft_xw hE "java/lang/IllegalStateException" (by decide +kernel))) (by decide +kernel) hE.2.2.us hE.2.2.ss hS (hl.1.trans hml.symm) dX7_restore_7 dX7_restore_10 dX7_restore_11 dX7_restore_14 dX7_restore_17 (fun x hx9 => (hnt x hx9).elim) (Nat.le_of_ble_eq_true rfl) (Nat.le_of_ble_eq_true rfl) (Nat.le_of_ble_eq_true rfl) (Nat.le_of_ble_eq_true rfl) hlocks (fun t _ h1 h2 => ⟨(q, pm, o), trivial, ⟨hsp, ft_heap2 hP h2⟩, ft_Fa hS h1 h2⟩) hS.2.2 (by decide) (by decide)

def s_X7_undo (q : Nat → Nat → Int32) (pm : Nat → Nat) (o : Nat → Int32)  : Except String Int32 × ft_St := if ((s_X2_giveBack q pm o).1) = 0 then ((.error "java/util/NoSuchElementException", ((s_X2_giveBack q pm o).2.1, (s_X2_giveBack q pm o).2.2.1, (s_X2_giveBack q pm o).2.2.2))) else ((.ok (((s_X2_giveBack q pm o).2.2.2) 3), ((s_X2_giveBack q pm o).2.1, (s_X2_giveBack q pm o).2.2.1, (s_X2_giveBack q pm o).2.2.2)))
set_option maxHeartbeats 4000000 in
set_option maxRecDepth 100000 in
theorem c_X7_undo (l : Launch) (hl0 : l.stackTraces = false) (dC : va_G) (Z : Nat → Nat → Nat) (ad : Nat → Nat) (k : Nat → ClassId) (q : Nat → Nat → Int32) (pm : Nat → Nat) (o : Nat → Int32) (g : ft_G)  (hpm : ∀ i, i < 8 → pm i < 8) : vx_Met l yX7_undo wsX7_undo ({ frames := 6, cells := 1, slots := 6, locals := 124 }) (ft_Pf dC k Z (ft_A 292 ad) [.ref (ad 253)] (ft_WR ad k Z q pm o g)) (va_Qi (fun (z : Int32) (u : ft_St) => (.ok z, u) = s_X7_undo q pm o) (fun (u : ft_St) (t : State) => va_P dC vwCl (ft_WR ad k Z u.1 u.2.1 u.2.2 g) t.heap) (ft_A 292 ad)) (vx_X (fun (_ : ft_St) => True) (fun (E : String) (u : ft_St) (t : State) => (.error E, u) = s_X7_undo q pm o ∧ va_P dC vwCl (ft_WR ad k Z u.1 u.2.1 u.2.2 g) t.heap) (ft_A 292 ad)) 1 6 (ft_A 292 ad) := by
  refine vx_ofW (cc := cX7_undo) (maxL := 1) (ret := (some .int)) (by decide) rfl ?_
  intro p e s m args below meth c s₁ B hml hnt hv
  obtain ⟨hargs, hP, hE, hD0⟩ := hv
  have hK := hE.1
  subst hargs
  have hx := B.exec
  have hb := B.bytes
  have hr := B.returns
  have hts := atoms_spec (ws := wsX7_undo) B.pre
  have hown : s.vm.findClass RX7 = some m.cls := findClass_of_methodNamed B.named
  have hlocks := B.notSynchronized
  have hD := ft_D_self hD0
  have hS : va_S (ft_A 292 ad) s.heap s.heap [] := va_S.rf
  have hl := lv_entry ([.ref (ad 253)]) (n := 1) (Nat.le_of_ble_eq_true rfl)
  rw [lg_entry_eq]
  generalize (lg_sl ([.ref (ad 253)]) ++ List.replicate (1 - (lg_sl ([.ref (ad 253)])).length) Slot.unset).toArray = ls at hl ⊢
  have hl : lv_has ls 1 [(0, .ref (ad 253))] := hl
  have hsp := (s_X7_undo.eq_1 q pm o ).symm
  refine lv_aload_n hx hb dX7_undo_0 rfl (lv_at hl 0 rfl) ?_
  refine va_get (D := dC) (ci := 9) (v := .ref (ad 254)) (C := RX7) (T := TX7) (N := 9) hx hb hts (by decide +kernel) hown hK.1 hP (253 + 0) (ft_get' (by decide) rfl) rfl 3 (by decide) (hts (.fieldLink RX7 25 "FoodTruckRota" "history" "LFoodTruckRota$History;") (by decide +kernel)) (fun _ h9 => h9) rfl dX7_undo_1 ?_
  refine lv_aload_n hx hb dX7_undo_4 rfl (lv_at hl 0 rfl) ?_
  refine va_get (D := dC) (ci := 9) (v := .ref (ft_sq ad 0 0)) (C := RX7) (T := TX7) (N := 9) hx hb hts (by decide +kernel) hown hK.1 hP (253 + 0) (ft_get' (by decide) rfl) rfl 0 (by decide) (hts (.fieldLink RX7 12 "FoodTruckRota" "square" "LFoodTruckRota$Square;") (by decide +kernel)) (fun _ h9 => h9) rfl dX7_undo_5 ?_
  refine va_calli (va_runV (As := [.ref (ft_sq ad 0 0)]) (rest := []) ⟨hx, hb, hml, hown, hts⟩ (c_X2_giveBack l dC Z ad k q pm o g   hpm) (cwV 1 hts gX7_undo_X2_giveBack rfl rfl rfl (by decide +kernel) ⟨Nat.le_of_ble_eq_true rfl, Nat.le_of_ble_eq_true rfl⟩) (ft_preVh hE hS (fun _ h => h) hP hD (ci := 4) (q0 := (253 + 1)) rfl (ft_get' (by decide) rfl)) rfl rfl hl.1 rfl (lv_room (Nat.le_of_ble_eq_true rfl)) dX7_undo_8 ⟨Nat.le_of_ble_eq_true rfl, Nat.le_of_ble_eq_true rfl⟩) hS (fun q _ h => h) (fun q h => h) (fun z u t H1 locs ht hvm hw hB hz1 hk1 hS => ?_)
  obtain ⟨rfl, rfl⟩ : z = (s_X2_giveBack q pm o).1 ∧ u = (s_X2_giveBack q pm o).2 := ⟨congrArg Prod.fst hw, congrArg Prod.snd hw⟩
  rw [ht] at hB
  have hP : va_P dC vwCl (ft_WR ad k Z ((s_X2_giveBack q pm o).2.1) ((s_X2_giveBack q pm o).2.2.1) ((s_X2_giveBack q pm o).2.2.2) g) H1 := hB
  have hD : va_D (ft_A 292 ad) (ft_WR ad k Z ((s_X2_giveBack q pm o).2.1) ((s_X2_giveBack q pm o).2.2.1) ((s_X2_giveBack q pm o).2.2.2) g) := ft_D_va hD _
  generalize H1 = H at hP hS ⊢
  refine lv_if_ne (tgt := 25) hx hb dX7_undo_11 (by decide) (fun c_11 => ?_) (fun c_11 => ?_)
  · replace hsp := (if_neg c_11).symm.trans hsp
    refine lv_aload_n hx hb dX7_undo_25 rfl (lv_at hl 0 rfl) ?_
    refine va_get (D := dC) (ci := 9) (v := .ref (ad 254)) (C := RX7) (T := TX7) (N := 9) hx hb hts (by decide +kernel) hown hK.1 hP (253 + 0) (ft_get' (by decide) rfl) rfl 3 (by decide) (hts (.fieldLink RX7 25 "FoodTruckRota" "history" "LFoodTruckRota$History;") (by decide +kernel)) (fun _ h9 => h9) rfl dX7_undo_26 ?_
    refine va_getN (D := dC) (ci := 4) (v := .int (((s_X2_giveBack q pm o).2.2.2) 3)) (C := RX2) (T := TX2) (N := 2) hx hb hts (by decide +kernel) hown hK.1 hP (253 + 1) (ft_get' (by decide) rfl) rfl 1 (by decide) (ft_nl hK.2 19 rfl) (fun _ h9 => h9) rfl dX7_undo_29 ?_
    refine vx_ret ?_
    refine W.widen (k := 1) (n := 6) (by decide) (by decide) ?_
    exact W.iret (v := ((s_X2_giveBack q pm o).2.2.2) 3) hx hb hr (fun t ht hW => ⟨⟨((s_X2_giveBack q pm o).2.2.2) 3, ((s_X2_giveBack q pm o).2.1, (s_X2_giveBack q pm o).2.2.1, (s_X2_giveBack q pm o).2.2.2), rfl, hsp, ft_heap ht hP⟩, hS.F ht⟩) hS.2.2 dX7_undo_32
  · replace hsp := (if_pos c_11).symm.trans hsp
    obtain ⟨sa, hsa⟩ := hE.2.1.2.1 (RX7, 286, "there is nothing to undo") (List.mem_of_getElem? (i := 8) rfl)
    exact ft_throwX (ix := 13) (rx := ft_nrx) (by decide) (by decide) (by decide) (by decide) (text := "there is nothing to undo") (names := ["java/lang/RuntimeException", "java/lang/Exception"]) hx hb hl0 hown (by decide +kernel) (by decide +kernel) (hts (.classLink RX7 284 "java/util/NoSuchElementException") (by decide +kernel)) (hts (.initialized "java/util/NoSuchElementException") (by decide +kernel)) hsa (vx_hat (fun w h => hts w (List.mem_cons_of_mem _ (List.mem_append_right _ h))) (by decide +kernel) (ft_xw hE "java/util/NoSuchElementException" (by decide +kernel))) (by decide +kernel) hE.2.2.us hE.2.2.ss hS (hl.1.trans hml.symm) dX7_undo_14 dX7_undo_17 dX7_undo_18 dX7_undo_21 dX7_undo_24 (fun x hx9 => (hnt x hx9).elim) (Nat.le_of_ble_eq_true rfl) (Nat.le_of_ble_eq_true rfl) (Nat.le_of_ble_eq_true rfl) (Nat.le_of_ble_eq_true rfl) hlocks (fun t _ h1 h2 => ⟨((s_X2_giveBack q pm o).2.1, (s_X2_giveBack q pm o).2.2.1, (s_X2_giveBack q pm o).2.2.2), trivial, ⟨hsp, ft_heap2 hP h2⟩, ft_Fa hS h1 h2⟩) hS.2.2 (by decide) (by decide)

def s_X7_change (q : Nat → Nat → Int32) (pm : Nat → Nat) (o : Nat → Int32) (c1 : Nat) (x2 : Int32) (x3 : Int32) (x4 : Int32) : Except String Int32 × ft_St := if 0 ≤ ((s_X4_carryOut c1 ((va_up q 1 (s_X4_copyFrom (q 1) (q 0))) 1) x2 x3 x4).1) then ((.ok ((s_X4_carryOut c1 ((va_up q 1 (s_X4_copyFrom (q 1) (q 0))) 1) x2 x3 x4).1), ((s_X7_takeDraft (va_up (va_up q 1 (s_X4_copyFrom (q 1) (q 0))) 1 ((s_X4_carryOut c1 ((va_up q 1 (s_X4_copyFrom (q 1) (q 0))) 1) x2 x3 x4).2)) pm o).1, (s_X7_takeDraft (va_up (va_up q 1 (s_X4_copyFrom (q 1) (q 0))) 1 ((s_X4_carryOut c1 ((va_up q 1 (s_X4_copyFrom (q 1) (q 0))) 1) x2 x3 x4).2)) pm o).2.1, (s_X7_takeDraft (va_up (va_up q 1 (s_X4_copyFrom (q 1) (q 0))) 1 ((s_X4_carryOut c1 ((va_up q 1 (s_X4_copyFrom (q 1) (q 0))) 1) x2 x3 x4).2)) pm o).2.2))) else (ft_xs (s_X7_refuse ((s_X4_carryOut c1 ((va_up q 1 (s_X4_copyFrom (q 1) (q 0))) 1) x2 x3 x4).1)) (va_up (va_up q 1 (s_X4_copyFrom (q 1) (q 0))) 1 ((s_X4_carryOut c1 ((va_up q 1 (s_X4_copyFrom (q 1) (q 0))) 1) x2 x3 x4).2), pm, o) (fun _ => (.ok ((s_X4_carryOut c1 ((va_up q 1 (s_X4_copyFrom (q 1) (q 0))) 1) x2 x3 x4).1), ((s_X7_takeDraft (va_up (va_up q 1 (s_X4_copyFrom (q 1) (q 0))) 1 ((s_X4_carryOut c1 ((va_up q 1 (s_X4_copyFrom (q 1) (q 0))) 1) x2 x3 x4).2)) pm o).1, (s_X7_takeDraft (va_up (va_up q 1 (s_X4_copyFrom (q 1) (q 0))) 1 ((s_X4_carryOut c1 ((va_up q 1 (s_X4_copyFrom (q 1) (q 0))) 1) x2 x3 x4).2)) pm o).2.1, (s_X7_takeDraft (va_up (va_up q 1 (s_X4_copyFrom (q 1) (q 0))) 1 ((s_X4_carryOut c1 ((va_up q 1 (s_X4_copyFrom (q 1) (q 0))) 1) x2 x3 x4).2)) pm o).2.2))))
set_option maxHeartbeats 4000000 in
set_option maxRecDepth 100000 in
theorem c_X7_change (l : Launch) (hl0 : l.stackTraces = false) (dC : va_G) (Z : Nat → Nat → Nat) (ad : Nat → Nat) (k : Nat → ClassId) (q : Nat → Nat → Int32) (pm : Nat → Nat) (o : Nat → Int32) (g : ft_G) (c1 : Nat) (x2 : Int32) (x3 : Int32) (x4 : Int32) (hc1 : c1 < 9) (hpm : ∀ i, i < 8 → pm i < 8) : vx_Met l yX7_change wsX7_change ({ frames := 7, cells := 1, slots := 6, locals := 144 }) (ft_Pf dC k Z (ft_A 292 ad) [.ref (ad 253), .ref (Z 0 c1), .int x2, .int x3, .int x4] (ft_WR ad k Z q pm o g)) (va_Qi (fun (z : Int32) (u : ft_St) => (.ok z, u) = s_X7_change q pm o c1 x2 x3 x4) (fun (u : ft_St) (t : State) => va_P dC vwCl (ft_WR ad k Z u.1 u.2.1 u.2.2 g) t.heap) (ft_A 292 ad)) (vx_X (fun (_ : ft_St) => True) (fun (E : String) (u : ft_St) (t : State) => (.error E, u) = s_X7_change q pm o c1 x2 x3 x4 ∧ va_P dC vwCl (ft_WR ad k Z u.1 u.2.1 u.2.2 g) t.heap) (ft_A 292 ad)) 1 6 (ft_A 292 ad) := by
  refine vx_ofW (cc := cX7_change) (maxL := 6) (ret := (some .int)) (by decide) rfl ?_
  intro p e s m args below meth c s₁ B hml hnt hv
  obtain ⟨hargs, hP, hE, hD0⟩ := hv
  have hK := hE.1
  subst hargs
  have hx := B.exec
  have hb := B.bytes
  have hr := B.returns
  have hts := atoms_spec (ws := wsX7_change) B.pre
  have hown : s.vm.findClass RX7 = some m.cls := findClass_of_methodNamed B.named
  have hlocks := B.notSynchronized
  have hD := ft_D_self hD0
  have hS : va_S (ft_A 292 ad) s.heap s.heap [] := va_S.rf
  have hl := lv_entry ([.ref (ad 253), .ref (Z 0 c1), .int x2, .int x3, .int x4]) (n := 6) (Nat.le_of_ble_eq_true rfl)
  rw [lg_entry_eq]
  generalize (lg_sl ([.ref (ad 253), .ref (Z 0 c1), .int x2, .int x3, .int x4]) ++ List.replicate (6 - (lg_sl ([.ref (ad 253), .ref (Z 0 c1), .int x2, .int x3, .int x4])).length) Slot.unset).toArray = ls at hl ⊢
  have hl : lv_has ls 6 [(0, .ref (ad 253)), (1, .ref (Z 0 c1)), (2, .int (x2)), (3, .int (x3)), (4, .int (x4))] := hl
  have hsp := (s_X7_change.eq_1 q pm o c1 x2 x3 x4).symm
  refine lv_aload_n hx hb dX7_change_0 rfl (lv_at hl 0 rfl) ?_
  refine va_get (D := dC) (ci := 9) (v := .ref (ft_sq ad 1 0)) (C := RX7) (T := TX7) (N := 9) hx hb hts (by decide +kernel) hown hK.1 hP (253 + 0) (ft_get' (by decide) rfl) rfl 1 (by decide) (hts (.fieldLink RX7 16 "FoodTruckRota" "draft" "LFoodTruckRota$Square;") (by decide +kernel)) (fun _ h9 => h9) rfl dX7_change_1 ?_
  refine lv_aload_n hx hb dX7_change_4 rfl (lv_at hl 0 rfl) ?_
  refine va_get (D := dC) (ci := 9) (v := .ref (ft_sq ad 0 0)) (C := RX7) (T := TX7) (N := 9) hx hb hts (by decide +kernel) hown hK.1 hP (253 + 0) (ft_get' (by decide) rfl) rfl 0 (by decide) (hts (.fieldLink RX7 12 "FoodTruckRota" "square" "LFoodTruckRota$Square;") (by decide +kernel)) (fun _ h9 => h9) rfl dX7_change_5 ?_
  refine va_callv (va_runV (As := [.ref (ft_sq ad 0 0)]) (rest := []) ⟨hx, hb, hml, hown, hts⟩ (c_X4_copyFrom l dC (ft_sq ad 1) k (q 1) (ft_sq ad 0) (q 0)) (cwV 1 hts gX7_change_X4_copyFrom rfl rfl rfl (by decide +kernel) ⟨Nat.le_of_ble_eq_true rfl, Nat.le_of_ble_eq_true rfl⟩) (ft_preVd hK (ft_R_P2 hP (a := 1) (b := 0) (by decide) (by decide)) (ft_R_D2 hD (a := 1) (b := 0) (by decide) (by decide) (by omega)) (ci := 6) rfl (ft_get' (by decide) rfl)) rfl rfl hl.1 rfl (lv_room (Nat.le_of_ble_eq_true rfl)) dX7_change_8 ⟨Nat.le_of_ble_eq_true rfl, Nat.le_of_ble_eq_true rfl⟩) hS (fun z9 _ h => ft_R_A2 (a := 1) (b := 0) (by decide) (by decide) z9 h) (fun z9 h => ft_R_A2 (a := 1) (b := 0) (by decide) (by decide) z9 h) (fun u t H1 locs ht hvm hw hB hz1 hk1 hS => ?_)
  subst hw
  rw [ht] at hB
  have hP : va_P dC vwCl (ft_WR ad k Z (va_up q 1 (s_X4_copyFrom (q 1) (q 0))) pm o g) H1 := ft_R_join2 hP hD (a := 1) (b := 0) (by decide) (by decide) (by omega) hk1 hB
  have hD : va_D (ft_A 292 ad) (ft_WR ad k Z (va_up q 1 (s_X4_copyFrom (q 1) (q 0))) pm o g) := ft_D_va hD _
  generalize H1 = H at hP hS ⊢
  refine lv_aload_n hx hb dX7_change_11 rfl (lv_at hl 0 rfl) ?_
  refine va_get (D := dC) (ci := 9) (v := .ref (ft_sq ad 1 0)) (C := RX7) (T := TX7) (N := 9) hx hb hts (by decide +kernel) hown hK.1 hP (253 + 0) (ft_get' (by decide) rfl) rfl 1 (by decide) (hts (.fieldLink RX7 16 "FoodTruckRota" "draft" "LFoodTruckRota$Square;") (by decide +kernel)) (fun _ h9 => h9) rfl dX7_change_12 ?_
  refine lv_aload_n hx hb dX7_change_15 rfl (lv_at hl 1 rfl) ?_
  refine lv_iload_n hx hb dX7_change_16 rfl (lv_at hl 2 rfl) ?_
  refine lv_iload_n hx hb dX7_change_17 rfl (lv_at hl 3 rfl) ?_
  refine lv_iload hx hb dX7_change_18 (lv_at hl 4 rfl) ?_
  refine va_calli (va_runV (As := [.ref (Z 0 c1), .int (x2), .int (x3), .int (x4)]) (rest := []) ⟨hx, hb, hml, hown, hts⟩ (c_X4_carryOut l dC Z (ft_sq ad 1) k ((va_up q 1 (s_X4_copyFrom (q 1) (q 0))) 1) c1 hc1 x2 x3 x4) (cwV 4 hts gX7_change_X4_carryOut rfl rfl rfl (by decide +kernel) ⟨Nat.le_of_ble_eq_true rfl, Nat.le_of_ble_eq_true rfl⟩) (ft_preVf hE hS (ft_R_A (s := 1) (by decide)) (ft_R_S hP (s := 1) (by decide)) (ft_R_D hD (s := 1) (by decide)) (ci := 6) rfl (ft_get' (by decide) rfl)) rfl rfl hl.1 rfl (lv_room (Nat.le_of_ble_eq_true rfl)) dX7_change_20 ⟨Nat.le_of_ble_eq_true rfl, Nat.le_of_ble_eq_true rfl⟩) hS (fun z9 _ h => ft_R_A (s := 1) (by decide) z9 h) (fun z9 h => ft_R_A (s := 1) (by decide) z9 h) (fun z u t H1 locs ht hvm hw hB hz1 hk1 hS => ?_)
  obtain ⟨rfl, rfl⟩ : z = (s_X4_carryOut c1 ((va_up q 1 (s_X4_copyFrom (q 1) (q 0))) 1) x2 x3 x4).1 ∧ u = (s_X4_carryOut c1 ((va_up q 1 (s_X4_copyFrom (q 1) (q 0))) 1) x2 x3 x4).2 := ⟨congrArg Prod.fst hw, congrArg Prod.snd hw⟩
  rw [ht] at hB
  have hP : va_P dC vwCl (ft_WR ad k Z (va_up (va_up q 1 (s_X4_copyFrom (q 1) (q 0))) 1 ((s_X4_carryOut c1 ((va_up q 1 (s_X4_copyFrom (q 1) (q 0))) 1) x2 x3 x4).2)) pm o g) H1 := ft_R_join hP hD (s := 1) (by decide) hk1 hB
  have hD : va_D (ft_A 292 ad) (ft_WR ad k Z (va_up (va_up q 1 (s_X4_copyFrom (q 1) (q 0))) 1 ((s_X4_carryOut c1 ((va_up q 1 (s_X4_copyFrom (q 1) (q 0))) 1) x2 x3 x4).2)) pm o g) := ft_D_va hD _
  generalize H1 = H at hP hS ⊢
  refine lv_istore (lv' := [(5, .int ((s_X4_carryOut c1 ((va_up q 1 (s_X4_copyFrom (q 1) (q 0))) 1) x2 x3 x4).1)), (0, .ref (ad 253)), (1, .ref (Z 0 c1)), (2, .int (x2)), (3, .int (x3)), (4, .int (x4))]) hx hb dX7_change_23 hl (by decide) rfl (fun ls hl => ?_)
  refine lv_iload hx hb dX7_change_25 (lv_at hl 0 rfl) ?_
  refine lv_if_ge (tgt := 35) hx hb dX7_change_27 (by decide) (fun c_27 => ?_) (fun c_27 => ?_)
  · replace hsp := (if_pos c_27).symm.trans hsp
    refine lv_aload_n hx hb dX7_change_35 rfl (lv_at hl 1 rfl) ?_
    refine va_callv (va_runV (As := []) (rest := []) ⟨hx, hb, hml, hown, hts⟩ (c_X7_takeDraft l dC Z ad k (va_up (va_up q 1 (s_X4_copyFrom (q 1) (q 0))) 1 ((s_X4_carryOut c1 ((va_up q 1 (s_X4_copyFrom (q 1) (q 0))) 1) x2 x3 x4).2)) pm o g   hpm) (cwV 0 hts gX7_change_X7_takeDraft rfl rfl rfl (by decide +kernel) ⟨Nat.le_of_ble_eq_true rfl, Nat.le_of_ble_eq_true rfl⟩) (ft_preVh hE hS (fun _ h => h) hP hD (ci := 9) (q0 := (253 + 0)) rfl (ft_get' (by decide) rfl)) rfl rfl hl.1 rfl (lv_room (Nat.le_of_ble_eq_true rfl)) dX7_change_36 ⟨Nat.le_of_ble_eq_true rfl, Nat.le_of_ble_eq_true rfl⟩) hS (fun q _ h => h) (fun q h => h) (fun u t H1 locs ht hvm hw hB hz1 hk1 hS => ?_)
    subst hw
    rw [ht] at hB
    have hP : va_P dC vwCl (ft_WR ad k Z ((s_X7_takeDraft (va_up (va_up q 1 (s_X4_copyFrom (q 1) (q 0))) 1 ((s_X4_carryOut c1 ((va_up q 1 (s_X4_copyFrom (q 1) (q 0))) 1) x2 x3 x4).2)) pm o).1) ((s_X7_takeDraft (va_up (va_up q 1 (s_X4_copyFrom (q 1) (q 0))) 1 ((s_X4_carryOut c1 ((va_up q 1 (s_X4_copyFrom (q 1) (q 0))) 1) x2 x3 x4).2)) pm o).2.1) ((s_X7_takeDraft (va_up (va_up q 1 (s_X4_copyFrom (q 1) (q 0))) 1 ((s_X4_carryOut c1 ((va_up q 1 (s_X4_copyFrom (q 1) (q 0))) 1) x2 x3 x4).2)) pm o).2.2) g) H1 := hB
    have hD : va_D (ft_A 292 ad) (ft_WR ad k Z ((s_X7_takeDraft (va_up (va_up q 1 (s_X4_copyFrom (q 1) (q 0))) 1 ((s_X4_carryOut c1 ((va_up q 1 (s_X4_copyFrom (q 1) (q 0))) 1) x2 x3 x4).2)) pm o).1) ((s_X7_takeDraft (va_up (va_up q 1 (s_X4_copyFrom (q 1) (q 0))) 1 ((s_X4_carryOut c1 ((va_up q 1 (s_X4_copyFrom (q 1) (q 0))) 1) x2 x3 x4).2)) pm o).2.1) ((s_X7_takeDraft (va_up (va_up q 1 (s_X4_copyFrom (q 1) (q 0))) 1 ((s_X4_carryOut c1 ((va_up q 1 (s_X4_copyFrom (q 1) (q 0))) 1) x2 x3 x4).2)) pm o).2.2) g) := ft_D_va hD _
    generalize H1 = H at hP hS ⊢
    refine lv_iload hx hb dX7_change_39 (lv_at hl 0 rfl) ?_
    refine vx_ret ?_
    refine W.widen (k := 1) (n := 6) (by decide) (by decide) ?_
    exact W.iret (v := (s_X4_carryOut c1 ((va_up q 1 (s_X4_copyFrom (q 1) (q 0))) 1) x2 x3 x4).1) hx hb hr (fun t ht hW => ⟨⟨(s_X4_carryOut c1 ((va_up q 1 (s_X4_copyFrom (q 1) (q 0))) 1) x2 x3 x4).1, ((s_X7_takeDraft (va_up (va_up q 1 (s_X4_copyFrom (q 1) (q 0))) 1 ((s_X4_carryOut c1 ((va_up q 1 (s_X4_copyFrom (q 1) (q 0))) 1) x2 x3 x4).2)) pm o).1, (s_X7_takeDraft (va_up (va_up q 1 (s_X4_copyFrom (q 1) (q 0))) 1 ((s_X4_carryOut c1 ((va_up q 1 (s_X4_copyFrom (q 1) (q 0))) 1) x2 x3 x4).2)) pm o).2.1, (s_X7_takeDraft (va_up (va_up q 1 (s_X4_copyFrom (q 1) (q 0))) 1 ((s_X4_carryOut c1 ((va_up q 1 (s_X4_copyFrom (q 1) (q 0))) 1) x2 x3 x4).2)) pm o).2.2), rfl, hsp, ft_heap ht hP⟩, hS.F ht⟩) hS.2.2 dX7_change_41
  · replace hsp := (if_neg c_27).symm.trans hsp
    refine lv_iload hx hb dX7_change_30 (lv_at hl 0 rfl) ?_
    refine vx_callv (vx_runS (As := [.int ((s_X4_carryOut c1 ((va_up q 1 (s_X4_copyFrom (q 1) (q 0))) 1) x2 x3 x4).1)]) (rest := []) ⟨hx, hb, hml, hown, hts⟩ (c_X7_refuse l hl0 dC Z (ft_A 292 ad) k ((s_X4_carryOut c1 ((va_up q 1 (s_X4_copyFrom (q 1) (q 0))) 1) x2 x3 x4).1)) (va_cwS 1 hts gX7_change_X7_refuse rfl rfl rfl (by decide +kernel) ⟨Nat.le_of_ble_eq_true rfl, Nat.le_of_ble_eq_true rfl⟩) (ft_preSo hE hS (fun _ h => h)) rfl rfl hl.1 rfl (lv_room (Nat.le_of_ble_eq_true rfl)) dX7_change_32 ⟨Nat.le_of_ble_eq_true rfl, Nat.le_of_ble_eq_true rfl⟩) hS (fun _ _ h => h.elim) (fun _ h => h.elim) (fun _ _ h => h.elim) (fun E ce q9 u t H1 locs1 ht hvm hu hB hz1 hk1 hS1 hc1 hc2 hc3 => ?_) (fun u t H1 locs1 ht hvm hw hB hz1 hk1 hS1 => ?_)
    · exact vx_out (fun x hx9 => (hnt x hx9).elim) hlocks hc1 hc2 hc3 (fun t2 ht2 hv2 => ⟨(va_up (va_up q 1 (s_X4_copyFrom (q 1) (q 0))) 1 ((s_X4_carryOut c1 ((va_up q 1 (s_X4_copyFrom (q 1) (q 0))) 1) x2 x3 x4).2), pm, o), trivial, ⟨(ft_xs_err hB hsp).symm, ft_heap ht2 (ft_keep hP hk1)⟩, hS1.F ht2⟩) hS1.2.2 (by decide) (by decide)
    replace hsp := ft_xs_ok hw hsp
    have hP := ft_keep hP hk1
    have hw_32 := hw
    have hS := hS1
    clear hS1
    generalize H1 = H at hP hS ⊢
    refine lv_aload_n hx hb dX7_change_35 rfl (lv_at hl 1 rfl) ?_
    refine va_callv (va_runV (As := []) (rest := []) ⟨hx, hb, hml, hown, hts⟩ (c_X7_takeDraft l dC Z ad k (va_up (va_up q 1 (s_X4_copyFrom (q 1) (q 0))) 1 ((s_X4_carryOut c1 ((va_up q 1 (s_X4_copyFrom (q 1) (q 0))) 1) x2 x3 x4).2)) pm o g   hpm) (cwV 0 hts gX7_change_X7_takeDraft rfl rfl rfl (by decide +kernel) ⟨Nat.le_of_ble_eq_true rfl, Nat.le_of_ble_eq_true rfl⟩) (ft_preVh hE hS (fun _ h => h) hP hD (ci := 9) (q0 := (253 + 0)) rfl (ft_get' (by decide) rfl)) rfl rfl hl.1 rfl (lv_room (Nat.le_of_ble_eq_true rfl)) dX7_change_36 ⟨Nat.le_of_ble_eq_true rfl, Nat.le_of_ble_eq_true rfl⟩) hS (fun q _ h => h) (fun q h => h) (fun u t H1 locs ht hvm hw hB hz1 hk1 hS => ?_)
    subst hw
    rw [ht] at hB
    have hP : va_P dC vwCl (ft_WR ad k Z ((s_X7_takeDraft (va_up (va_up q 1 (s_X4_copyFrom (q 1) (q 0))) 1 ((s_X4_carryOut c1 ((va_up q 1 (s_X4_copyFrom (q 1) (q 0))) 1) x2 x3 x4).2)) pm o).1) ((s_X7_takeDraft (va_up (va_up q 1 (s_X4_copyFrom (q 1) (q 0))) 1 ((s_X4_carryOut c1 ((va_up q 1 (s_X4_copyFrom (q 1) (q 0))) 1) x2 x3 x4).2)) pm o).2.1) ((s_X7_takeDraft (va_up (va_up q 1 (s_X4_copyFrom (q 1) (q 0))) 1 ((s_X4_carryOut c1 ((va_up q 1 (s_X4_copyFrom (q 1) (q 0))) 1) x2 x3 x4).2)) pm o).2.2) g) H1 := hB
    have hD : va_D (ft_A 292 ad) (ft_WR ad k Z ((s_X7_takeDraft (va_up (va_up q 1 (s_X4_copyFrom (q 1) (q 0))) 1 ((s_X4_carryOut c1 ((va_up q 1 (s_X4_copyFrom (q 1) (q 0))) 1) x2 x3 x4).2)) pm o).1) ((s_X7_takeDraft (va_up (va_up q 1 (s_X4_copyFrom (q 1) (q 0))) 1 ((s_X4_carryOut c1 ((va_up q 1 (s_X4_copyFrom (q 1) (q 0))) 1) x2 x3 x4).2)) pm o).2.1) ((s_X7_takeDraft (va_up (va_up q 1 (s_X4_copyFrom (q 1) (q 0))) 1 ((s_X4_carryOut c1 ((va_up q 1 (s_X4_copyFrom (q 1) (q 0))) 1) x2 x3 x4).2)) pm o).2.2) g) := ft_D_va hD _
    generalize H1 = H at hP hS ⊢
    refine lv_iload hx hb dX7_change_39 (lv_at hl 0 rfl) ?_
    refine vx_ret ?_
    refine W.widen (k := 1) (n := 6) (by decide) (by decide) ?_
    exact W.iret (v := (s_X4_carryOut c1 ((va_up q 1 (s_X4_copyFrom (q 1) (q 0))) 1) x2 x3 x4).1) hx hb hr (fun t ht hW => ⟨⟨(s_X4_carryOut c1 ((va_up q 1 (s_X4_copyFrom (q 1) (q 0))) 1) x2 x3 x4).1, ((s_X7_takeDraft (va_up (va_up q 1 (s_X4_copyFrom (q 1) (q 0))) 1 ((s_X4_carryOut c1 ((va_up q 1 (s_X4_copyFrom (q 1) (q 0))) 1) x2 x3 x4).2)) pm o).1, (s_X7_takeDraft (va_up (va_up q 1 (s_X4_copyFrom (q 1) (q 0))) 1 ((s_X4_carryOut c1 ((va_up q 1 (s_X4_copyFrom (q 1) (q 0))) 1) x2 x3 x4).2)) pm o).2.1, (s_X7_takeDraft (va_up (va_up q 1 (s_X4_copyFrom (q 1) (q 0))) 1 ((s_X4_carryOut c1 ((va_up q 1 (s_X4_copyFrom (q 1) (q 0))) 1) x2 x3 x4).2)) pm o).2.2), rfl, hsp, ft_heap ht hP⟩, hS.F ht⟩) hS.2.2 dX7_change_41

def s_X7_addTruck (q : Nat → Nat → Int32) (pm : Nat → Nat) (o : Nat → Int32)  : Except String Int32 × ft_St := ft_xt (s_X7_change q pm o 0 0 0 0) (fun z_7 u_7 => (.ok z_7, (u_7.1, u_7.2.1, u_7.2.2)))
set_option maxHeartbeats 4000000 in
set_option maxRecDepth 100000 in
theorem c_X7_addTruck (l : Launch) (hl0 : l.stackTraces = false) (dC : va_G) (Z : Nat → Nat → Nat) (ad : Nat → Nat) (k : Nat → ClassId) (q : Nat → Nat → Int32) (pm : Nat → Nat) (o : Nat → Int32) (g : ft_G)  (hpm : ∀ i, i < 8 → pm i < 8) : vx_Met l yX7_addTruck wsX7_addTruck ({ frames := 8, cells := 1, slots := 6, locals := 169 }) (ft_Pf dC k Z (ft_A 292 ad) [.ref (ad 253)] (ft_WR ad k Z q pm o g)) (va_Qi (fun (z : Int32) (u : ft_St) => (.ok z, u) = s_X7_addTruck q pm o) (fun (u : ft_St) (t : State) => va_P dC vwCl (ft_WR ad k Z u.1 u.2.1 u.2.2 g) t.heap) (ft_A 292 ad)) (vx_X (fun (_ : ft_St) => True) (fun (E : String) (u : ft_St) (t : State) => (.error E, u) = s_X7_addTruck q pm o ∧ va_P dC vwCl (ft_WR ad k Z u.1 u.2.1 u.2.2 g) t.heap) (ft_A 292 ad)) 1 6 (ft_A 292 ad) := by
  refine vx_ofW (cc := cX7_addTruck) (maxL := 1) (ret := (some .int)) (by decide) rfl ?_
  intro p e s m args below meth c s₁ B hml hnt hv
  obtain ⟨hargs, hP, hE, hD0⟩ := hv
  have hK := hE.1
  subst hargs
  have hx := B.exec
  have hb := B.bytes
  have hr := B.returns
  have hts := atoms_spec (ws := wsX7_addTruck) B.pre
  have hown : s.vm.findClass RX7 = some m.cls := findClass_of_methodNamed B.named
  have hlocks := B.notSynchronized
  have hD := ft_D_self hD0
  have hS : va_S (ft_A 292 ad) s.heap s.heap [] := va_S.rf
  have hl := lv_entry ([.ref (ad 253)]) (n := 1) (Nat.le_of_ble_eq_true rfl)
  rw [lg_entry_eq]
  generalize (lg_sl ([.ref (ad 253)]) ++ List.replicate (1 - (lg_sl ([.ref (ad 253)])).length) Slot.unset).toArray = ls at hl ⊢
  have hl : lv_has ls 1 [(0, .ref (ad 253))] := hl
  have hsp := (s_X7_addTruck.eq_1 q pm o ).symm
  refine lv_aload_n hx hb dX7_addTruck_0 rfl (lv_at hl 0 rfl) ?_
  refine va_gets (C := RX1) (n := "TRUCK") hx hb (hE.2.2.en.1 0 (by decide)).1 hS hown (hts (.fieldLink RX7 50 "FoodTruckRota$Command" "TRUCK" "LFoodTruckRota$Command;") (by decide +kernel)) (fun _ h9 => h9) dX7_addTruck_1 ?_
  refine lv_iconst (v := 0) hx hb dX7_addTruck_4 (by decide) ?_
  refine lv_iconst (v := 0) hx hb dX7_addTruck_5 (by decide) ?_
  refine lv_iconst (v := 0) hx hb dX7_addTruck_6 (by decide) ?_
  refine vx_calli (vx_runV (As := [.ref (Z 0 0), .int (0), .int (0), .int (0)]) (rest := []) ⟨hx, hb, hml, hown, hts⟩ (c_X7_change l hl0 dC Z ad k q pm o g 0 0 0 0 (by decide) hpm) (cwV 4 hts gX7_addTruck_X7_change rfl rfl rfl (by decide +kernel) ⟨Nat.le_of_ble_eq_true rfl, Nat.le_of_ble_eq_true rfl⟩) (ft_preVh hE hS (fun _ h => h) hP hD (ci := 9) (q0 := (253 + 0)) rfl (ft_get' (by decide) rfl)) rfl rfl hl.1 rfl (lv_room (Nat.le_of_ble_eq_true rfl)) dX7_addTruck_7 ⟨Nat.le_of_ble_eq_true rfl, Nat.le_of_ble_eq_true rfl⟩) hS (fun q _ h => h) (fun q h => h) (fun _ _ h => h) (fun E ce q9 u t H1 locs1 ht hvm hu hB hz1 hk1 hS1 hc1 hc2 hc3 => ?_) (fun z_7 u_7 t H1 locs1 ht hvm hw hB hz1 hk1 hS1 => ?_)
  · exact vx_out (fun x hx9 => (hnt x hx9).elim) hlocks hc1 hc2 hc3 (fun t2 ht2 hv2 => ⟨u, trivial, ⟨(ft_xt_err hB.1.symm hsp).symm, ft_heap ht2 (by rw [← ht]; exact hB.2)⟩, hS1.F ht2⟩) hS1.2.2 (by decide) (by decide)
  replace hsp := ft_xt_ok hw.symm hsp
  rw [ht] at hB
  have hP : va_P dC vwCl (ft_WR ad k Z u_7.1 u_7.2.1 u_7.2.2 g) H1 := hB
  have hD : va_D (ft_A 292 ad) (ft_WR ad k Z u_7.1 u_7.2.1 u_7.2.2 g) := ft_D_va hD _
  have hw_7 := hw
  have hS := hS1
  clear hS1
  generalize H1 = H at hP hS ⊢
  refine vx_ret ?_
  refine W.widen (k := 1) (n := 6) (by decide) (by decide) ?_
  exact W.iret (v := z_7) hx hb hr (fun t ht hW => ⟨⟨z_7, (u_7.1, u_7.2.1, u_7.2.2), rfl, hsp, ft_heap ht hP⟩, hS.F ht⟩) hS.2.2 dX7_addTruck_10

def s_X7_addStock (q : Nat → Nat → Int32) (pm : Nat → Nat) (o : Nat → Int32) (x1 : Int32) (x2 : Int32) (x3 : Int32) : Except String Int32 × ft_St := ft_xt (s_X7_change q pm o 1 x1 x2 x3) (fun z_7 u_7 => (.ok z_7, (u_7.1, u_7.2.1, u_7.2.2)))
set_option maxHeartbeats 4000000 in
set_option maxRecDepth 100000 in
theorem c_X7_addStock (l : Launch) (hl0 : l.stackTraces = false) (dC : va_G) (Z : Nat → Nat → Nat) (ad : Nat → Nat) (k : Nat → ClassId) (q : Nat → Nat → Int32) (pm : Nat → Nat) (o : Nat → Int32) (g : ft_G) (x1 : Int32) (x2 : Int32) (x3 : Int32) (hpm : ∀ i, i < 8 → pm i < 8) : vx_Met l yX7_addStock wsX7_addStock ({ frames := 8, cells := 1, slots := 6, locals := 169 }) (ft_Pf dC k Z (ft_A 292 ad) [.ref (ad 253), .int x1, .int x2, .int x3] (ft_WR ad k Z q pm o g)) (va_Qi (fun (z : Int32) (u : ft_St) => (.ok z, u) = s_X7_addStock q pm o x1 x2 x3) (fun (u : ft_St) (t : State) => va_P dC vwCl (ft_WR ad k Z u.1 u.2.1 u.2.2 g) t.heap) (ft_A 292 ad)) (vx_X (fun (_ : ft_St) => True) (fun (E : String) (u : ft_St) (t : State) => (.error E, u) = s_X7_addStock q pm o x1 x2 x3 ∧ va_P dC vwCl (ft_WR ad k Z u.1 u.2.1 u.2.2 g) t.heap) (ft_A 292 ad)) 1 6 (ft_A 292 ad) := by
  refine vx_ofW (cc := cX7_addStock) (maxL := 4) (ret := (some .int)) (by decide) rfl ?_
  intro p e s m args below meth c s₁ B hml hnt hv
  obtain ⟨hargs, hP, hE, hD0⟩ := hv
  have hK := hE.1
  subst hargs
  have hx := B.exec
  have hb := B.bytes
  have hr := B.returns
  have hts := atoms_spec (ws := wsX7_addStock) B.pre
  have hown : s.vm.findClass RX7 = some m.cls := findClass_of_methodNamed B.named
  have hlocks := B.notSynchronized
  have hD := ft_D_self hD0
  have hS : va_S (ft_A 292 ad) s.heap s.heap [] := va_S.rf
  have hl := lv_entry ([.ref (ad 253), .int x1, .int x2, .int x3]) (n := 4) (Nat.le_of_ble_eq_true rfl)
  rw [lg_entry_eq]
  generalize (lg_sl ([.ref (ad 253), .int x1, .int x2, .int x3]) ++ List.replicate (4 - (lg_sl ([.ref (ad 253), .int x1, .int x2, .int x3])).length) Slot.unset).toArray = ls at hl ⊢
  have hl : lv_has ls 4 [(0, .ref (ad 253)), (1, .int (x1)), (2, .int (x2)), (3, .int (x3))] := hl
  have hsp := (s_X7_addStock.eq_1 q pm o x1 x2 x3).symm
  refine lv_aload_n hx hb dX7_addStock_0 rfl (lv_at hl 0 rfl) ?_
  refine va_gets (C := RX1) (n := "STOCK") hx hb (hE.2.2.en.1 1 (by decide)).1 hS hown (hts (.fieldLink RX7 60 "FoodTruckRota$Command" "STOCK" "LFoodTruckRota$Command;") (by decide +kernel)) (fun _ h9 => h9) dX7_addStock_1 ?_
  refine lv_iload_n hx hb dX7_addStock_4 rfl (lv_at hl 1 rfl) ?_
  refine lv_iload_n hx hb dX7_addStock_5 rfl (lv_at hl 2 rfl) ?_
  refine lv_iload_n hx hb dX7_addStock_6 rfl (lv_at hl 3 rfl) ?_
  refine vx_calli (vx_runV (As := [.ref (Z 0 1), .int (x1), .int (x2), .int (x3)]) (rest := []) ⟨hx, hb, hml, hown, hts⟩ (c_X7_change l hl0 dC Z ad k q pm o g 1 x1 x2 x3 (by decide) hpm) (cwV 4 hts gX7_addStock_X7_change rfl rfl rfl (by decide +kernel) ⟨Nat.le_of_ble_eq_true rfl, Nat.le_of_ble_eq_true rfl⟩) (ft_preVh hE hS (fun _ h => h) hP hD (ci := 9) (q0 := (253 + 0)) rfl (ft_get' (by decide) rfl)) rfl rfl hl.1 rfl (lv_room (Nat.le_of_ble_eq_true rfl)) dX7_addStock_7 ⟨Nat.le_of_ble_eq_true rfl, Nat.le_of_ble_eq_true rfl⟩) hS (fun q _ h => h) (fun q h => h) (fun _ _ h => h) (fun E ce q9 u t H1 locs1 ht hvm hu hB hz1 hk1 hS1 hc1 hc2 hc3 => ?_) (fun z_7 u_7 t H1 locs1 ht hvm hw hB hz1 hk1 hS1 => ?_)
  · exact vx_out (fun x hx9 => (hnt x hx9).elim) hlocks hc1 hc2 hc3 (fun t2 ht2 hv2 => ⟨u, trivial, ⟨(ft_xt_err hB.1.symm hsp).symm, ft_heap ht2 (by rw [← ht]; exact hB.2)⟩, hS1.F ht2⟩) hS1.2.2 (by decide) (by decide)
  replace hsp := ft_xt_ok hw.symm hsp
  rw [ht] at hB
  have hP : va_P dC vwCl (ft_WR ad k Z u_7.1 u_7.2.1 u_7.2.2 g) H1 := hB
  have hD : va_D (ft_A 292 ad) (ft_WR ad k Z u_7.1 u_7.2.1 u_7.2.2 g) := ft_D_va hD _
  have hw_7 := hw
  have hS := hS1
  clear hS1
  generalize H1 = H at hP hS ⊢
  refine vx_ret ?_
  refine W.widen (k := 1) (n := 6) (by decide) (by decide) ?_
  exact W.iret (v := z_7) hx hb hr (fun t ht hW => ⟨⟨z_7, (u_7.1, u_7.2.1, u_7.2.2), rfl, hsp, ft_heap ht hP⟩, hS.F ht⟩) hS.2.2 dX7_addStock_10

def s_X7_setPrice (q : Nat → Nat → Int32) (pm : Nat → Nat) (o : Nat → Int32) (x1 : Int32) (x2 : Int32) : Except String Int32 × ft_St := ft_xt (s_X7_change q pm o 2 x1 x2 0) (fun z_7 u_7 => (.ok z_7, (u_7.1, u_7.2.1, u_7.2.2)))
set_option maxHeartbeats 4000000 in
set_option maxRecDepth 100000 in
theorem c_X7_setPrice (l : Launch) (hl0 : l.stackTraces = false) (dC : va_G) (Z : Nat → Nat → Nat) (ad : Nat → Nat) (k : Nat → ClassId) (q : Nat → Nat → Int32) (pm : Nat → Nat) (o : Nat → Int32) (g : ft_G) (x1 : Int32) (x2 : Int32) (hpm : ∀ i, i < 8 → pm i < 8) : vx_Met l yX7_setPrice wsX7_setPrice ({ frames := 8, cells := 1, slots := 6, locals := 169 }) (ft_Pf dC k Z (ft_A 292 ad) [.ref (ad 253), .int x1, .int x2] (ft_WR ad k Z q pm o g)) (va_Qi (fun (z : Int32) (u : ft_St) => (.ok z, u) = s_X7_setPrice q pm o x1 x2) (fun (u : ft_St) (t : State) => va_P dC vwCl (ft_WR ad k Z u.1 u.2.1 u.2.2 g) t.heap) (ft_A 292 ad)) (vx_X (fun (_ : ft_St) => True) (fun (E : String) (u : ft_St) (t : State) => (.error E, u) = s_X7_setPrice q pm o x1 x2 ∧ va_P dC vwCl (ft_WR ad k Z u.1 u.2.1 u.2.2 g) t.heap) (ft_A 292 ad)) 1 6 (ft_A 292 ad) := by
  refine vx_ofW (cc := cX7_setPrice) (maxL := 3) (ret := (some .int)) (by decide) rfl ?_
  intro p e s m args below meth c s₁ B hml hnt hv
  obtain ⟨hargs, hP, hE, hD0⟩ := hv
  have hK := hE.1
  subst hargs
  have hx := B.exec
  have hb := B.bytes
  have hr := B.returns
  have hts := atoms_spec (ws := wsX7_setPrice) B.pre
  have hown : s.vm.findClass RX7 = some m.cls := findClass_of_methodNamed B.named
  have hlocks := B.notSynchronized
  have hD := ft_D_self hD0
  have hS : va_S (ft_A 292 ad) s.heap s.heap [] := va_S.rf
  have hl := lv_entry ([.ref (ad 253), .int x1, .int x2]) (n := 3) (Nat.le_of_ble_eq_true rfl)
  rw [lg_entry_eq]
  generalize (lg_sl ([.ref (ad 253), .int x1, .int x2]) ++ List.replicate (3 - (lg_sl ([.ref (ad 253), .int x1, .int x2])).length) Slot.unset).toArray = ls at hl ⊢
  have hl : lv_has ls 3 [(0, .ref (ad 253)), (1, .int (x1)), (2, .int (x2))] := hl
  have hsp := (s_X7_setPrice.eq_1 q pm o x1 x2).symm
  refine lv_aload_n hx hb dX7_setPrice_0 rfl (lv_at hl 0 rfl) ?_
  refine va_gets (C := RX1) (n := "PRICE") hx hb (hE.2.2.en.1 2 (by decide)).1 hS hown (hts (.fieldLink RX7 63 "FoodTruckRota$Command" "PRICE" "LFoodTruckRota$Command;") (by decide +kernel)) (fun _ h9 => h9) dX7_setPrice_1 ?_
  refine lv_iload_n hx hb dX7_setPrice_4 rfl (lv_at hl 1 rfl) ?_
  refine lv_iload_n hx hb dX7_setPrice_5 rfl (lv_at hl 2 rfl) ?_
  refine lv_iconst (v := 0) hx hb dX7_setPrice_6 (by decide) ?_
  refine vx_calli (vx_runV (As := [.ref (Z 0 2), .int (x1), .int (x2), .int (0)]) (rest := []) ⟨hx, hb, hml, hown, hts⟩ (c_X7_change l hl0 dC Z ad k q pm o g 2 x1 x2 0 (by decide) hpm) (cwV 4 hts gX7_setPrice_X7_change rfl rfl rfl (by decide +kernel) ⟨Nat.le_of_ble_eq_true rfl, Nat.le_of_ble_eq_true rfl⟩) (ft_preVh hE hS (fun _ h => h) hP hD (ci := 9) (q0 := (253 + 0)) rfl (ft_get' (by decide) rfl)) rfl rfl hl.1 rfl (lv_room (Nat.le_of_ble_eq_true rfl)) dX7_setPrice_7 ⟨Nat.le_of_ble_eq_true rfl, Nat.le_of_ble_eq_true rfl⟩) hS (fun q _ h => h) (fun q h => h) (fun _ _ h => h) (fun E ce q9 u t H1 locs1 ht hvm hu hB hz1 hk1 hS1 hc1 hc2 hc3 => ?_) (fun z_7 u_7 t H1 locs1 ht hvm hw hB hz1 hk1 hS1 => ?_)
  · exact vx_out (fun x hx9 => (hnt x hx9).elim) hlocks hc1 hc2 hc3 (fun t2 ht2 hv2 => ⟨u, trivial, ⟨(ft_xt_err hB.1.symm hsp).symm, ft_heap ht2 (by rw [← ht]; exact hB.2)⟩, hS1.F ht2⟩) hS1.2.2 (by decide) (by decide)
  replace hsp := ft_xt_ok hw.symm hsp
  rw [ht] at hB
  have hP : va_P dC vwCl (ft_WR ad k Z u_7.1 u_7.2.1 u_7.2.2 g) H1 := hB
  have hD : va_D (ft_A 292 ad) (ft_WR ad k Z u_7.1 u_7.2.1 u_7.2.2 g) := ft_D_va hD _
  have hw_7 := hw
  have hS := hS1
  clear hS1
  generalize H1 = H at hP hS ⊢
  refine vx_ret ?_
  refine W.widen (k := 1) (n := 6) (by decide) (by decide) ?_
  exact W.iret (v := z_7) hx hb hr (fun t ht hW => ⟨⟨z_7, (u_7.1, u_7.2.1, u_7.2.2), rfl, hsp, ft_heap ht hP⟩, hS.F ht⟩) hS.2.2 dX7_setPrice_10

def s_X7_grantPermit (q : Nat → Nat → Int32) (pm : Nat → Nat) (o : Nat → Int32) (x1 : Int32) (x2 : Int32) : Except String Int32 × ft_St := ft_xt (s_X7_change q pm o 3 x1 x2 0) (fun z_7 u_7 => (.ok z_7, (u_7.1, u_7.2.1, u_7.2.2)))
set_option maxHeartbeats 4000000 in
set_option maxRecDepth 100000 in
theorem c_X7_grantPermit (l : Launch) (hl0 : l.stackTraces = false) (dC : va_G) (Z : Nat → Nat → Nat) (ad : Nat → Nat) (k : Nat → ClassId) (q : Nat → Nat → Int32) (pm : Nat → Nat) (o : Nat → Int32) (g : ft_G) (x1 : Int32) (x2 : Int32) (hpm : ∀ i, i < 8 → pm i < 8) : vx_Met l yX7_grantPermit wsX7_grantPermit ({ frames := 8, cells := 1, slots := 6, locals := 169 }) (ft_Pf dC k Z (ft_A 292 ad) [.ref (ad 253), .int x1, .int x2] (ft_WR ad k Z q pm o g)) (va_Qi (fun (z : Int32) (u : ft_St) => (.ok z, u) = s_X7_grantPermit q pm o x1 x2) (fun (u : ft_St) (t : State) => va_P dC vwCl (ft_WR ad k Z u.1 u.2.1 u.2.2 g) t.heap) (ft_A 292 ad)) (vx_X (fun (_ : ft_St) => True) (fun (E : String) (u : ft_St) (t : State) => (.error E, u) = s_X7_grantPermit q pm o x1 x2 ∧ va_P dC vwCl (ft_WR ad k Z u.1 u.2.1 u.2.2 g) t.heap) (ft_A 292 ad)) 1 6 (ft_A 292 ad) := by
  refine vx_ofW (cc := cX7_grantPermit) (maxL := 3) (ret := (some .int)) (by decide) rfl ?_
  intro p e s m args below meth c s₁ B hml hnt hv
  obtain ⟨hargs, hP, hE, hD0⟩ := hv
  have hK := hE.1
  subst hargs
  have hx := B.exec
  have hb := B.bytes
  have hr := B.returns
  have hts := atoms_spec (ws := wsX7_grantPermit) B.pre
  have hown : s.vm.findClass RX7 = some m.cls := findClass_of_methodNamed B.named
  have hlocks := B.notSynchronized
  have hD := ft_D_self hD0
  have hS : va_S (ft_A 292 ad) s.heap s.heap [] := va_S.rf
  have hl := lv_entry ([.ref (ad 253), .int x1, .int x2]) (n := 3) (Nat.le_of_ble_eq_true rfl)
  rw [lg_entry_eq]
  generalize (lg_sl ([.ref (ad 253), .int x1, .int x2]) ++ List.replicate (3 - (lg_sl ([.ref (ad 253), .int x1, .int x2])).length) Slot.unset).toArray = ls at hl ⊢
  have hl : lv_has ls 3 [(0, .ref (ad 253)), (1, .int (x1)), (2, .int (x2))] := hl
  have hsp := (s_X7_grantPermit.eq_1 q pm o x1 x2).symm
  refine lv_aload_n hx hb dX7_grantPermit_0 rfl (lv_at hl 0 rfl) ?_
  refine va_gets (C := RX1) (n := "PERMIT") hx hb (hE.2.2.en.1 3 (by decide)).1 hS hown (hts (.fieldLink RX7 66 "FoodTruckRota$Command" "PERMIT" "LFoodTruckRota$Command;") (by decide +kernel)) (fun _ h9 => h9) dX7_grantPermit_1 ?_
  refine lv_iload_n hx hb dX7_grantPermit_4 rfl (lv_at hl 1 rfl) ?_
  refine lv_iload_n hx hb dX7_grantPermit_5 rfl (lv_at hl 2 rfl) ?_
  refine lv_iconst (v := 0) hx hb dX7_grantPermit_6 (by decide) ?_
  refine vx_calli (vx_runV (As := [.ref (Z 0 3), .int (x1), .int (x2), .int (0)]) (rest := []) ⟨hx, hb, hml, hown, hts⟩ (c_X7_change l hl0 dC Z ad k q pm o g 3 x1 x2 0 (by decide) hpm) (cwV 4 hts gX7_grantPermit_X7_change rfl rfl rfl (by decide +kernel) ⟨Nat.le_of_ble_eq_true rfl, Nat.le_of_ble_eq_true rfl⟩) (ft_preVh hE hS (fun _ h => h) hP hD (ci := 9) (q0 := (253 + 0)) rfl (ft_get' (by decide) rfl)) rfl rfl hl.1 rfl (lv_room (Nat.le_of_ble_eq_true rfl)) dX7_grantPermit_7 ⟨Nat.le_of_ble_eq_true rfl, Nat.le_of_ble_eq_true rfl⟩) hS (fun q _ h => h) (fun q h => h) (fun _ _ h => h) (fun E ce q9 u t H1 locs1 ht hvm hu hB hz1 hk1 hS1 hc1 hc2 hc3 => ?_) (fun z_7 u_7 t H1 locs1 ht hvm hw hB hz1 hk1 hS1 => ?_)
  · exact vx_out (fun x hx9 => (hnt x hx9).elim) hlocks hc1 hc2 hc3 (fun t2 ht2 hv2 => ⟨u, trivial, ⟨(ft_xt_err hB.1.symm hsp).symm, ft_heap ht2 (by rw [← ht]; exact hB.2)⟩, hS1.F ht2⟩) hS1.2.2 (by decide) (by decide)
  replace hsp := ft_xt_ok hw.symm hsp
  rw [ht] at hB
  have hP : va_P dC vwCl (ft_WR ad k Z u_7.1 u_7.2.1 u_7.2.2 g) H1 := hB
  have hD : va_D (ft_A 292 ad) (ft_WR ad k Z u_7.1 u_7.2.1 u_7.2.2 g) := ft_D_va hD _
  have hw_7 := hw
  have hS := hS1
  clear hS1
  generalize H1 = H at hP hS ⊢
  refine vx_ret ?_
  refine W.widen (k := 1) (n := 6) (by decide) (by decide) ?_
  exact W.iret (v := z_7) hx hb hr (fun t ht hW => ⟨⟨z_7, (u_7.1, u_7.2.1, u_7.2.2), rfl, hsp, ft_heap ht hP⟩, hS.F ht⟩) hS.2.2 dX7_grantPermit_10

def s_X7_revokePermit (q : Nat → Nat → Int32) (pm : Nat → Nat) (o : Nat → Int32) (x1 : Int32) (x2 : Int32) : Except String Int32 × ft_St := ft_xt (s_X7_change q pm o 4 x1 x2 0) (fun z_7 u_7 => if z_7 ≤ 0 then ((.ok 0, (u_7.1, u_7.2.1, u_7.2.2))) else ((.ok 1, (u_7.1, u_7.2.1, u_7.2.2))))
set_option maxHeartbeats 4000000 in
set_option maxRecDepth 100000 in
theorem c_X7_revokePermit (l : Launch) (hl0 : l.stackTraces = false) (dC : va_G) (Z : Nat → Nat → Nat) (ad : Nat → Nat) (k : Nat → ClassId) (q : Nat → Nat → Int32) (pm : Nat → Nat) (o : Nat → Int32) (g : ft_G) (x1 : Int32) (x2 : Int32) (hpm : ∀ i, i < 8 → pm i < 8) : vx_Met l yX7_revokePermit wsX7_revokePermit ({ frames := 8, cells := 1, slots := 6, locals := 169 }) (ft_Pf dC k Z (ft_A 292 ad) [.ref (ad 253), .int x1, .int x2] (ft_WR ad k Z q pm o g)) (va_Qi (fun (z : Int32) (u : ft_St) => (.ok z, u) = s_X7_revokePermit q pm o x1 x2) (fun (u : ft_St) (t : State) => va_P dC vwCl (ft_WR ad k Z u.1 u.2.1 u.2.2 g) t.heap) (ft_A 292 ad)) (vx_X (fun (_ : ft_St) => True) (fun (E : String) (u : ft_St) (t : State) => (.error E, u) = s_X7_revokePermit q pm o x1 x2 ∧ va_P dC vwCl (ft_WR ad k Z u.1 u.2.1 u.2.2 g) t.heap) (ft_A 292 ad)) 1 6 (ft_A 292 ad) := by
  refine vx_ofW (cc := cX7_revokePermit) (maxL := 3) (ret := (some .boolean)) (by decide) rfl ?_
  intro p e s m args below meth c s₁ B hml hnt hv
  obtain ⟨hargs, hP, hE, hD0⟩ := hv
  have hK := hE.1
  subst hargs
  have hx := B.exec
  have hb := B.bytes
  have hr := B.returns
  have hts := atoms_spec (ws := wsX7_revokePermit) B.pre
  have hown : s.vm.findClass RX7 = some m.cls := findClass_of_methodNamed B.named
  have hlocks := B.notSynchronized
  have hD := ft_D_self hD0
  have hS : va_S (ft_A 292 ad) s.heap s.heap [] := va_S.rf
  have hl := lv_entry ([.ref (ad 253), .int x1, .int x2]) (n := 3) (Nat.le_of_ble_eq_true rfl)
  rw [lg_entry_eq]
  generalize (lg_sl ([.ref (ad 253), .int x1, .int x2]) ++ List.replicate (3 - (lg_sl ([.ref (ad 253), .int x1, .int x2])).length) Slot.unset).toArray = ls at hl ⊢
  have hl : lv_has ls 3 [(0, .ref (ad 253)), (1, .int (x1)), (2, .int (x2))] := hl
  have hsp := (s_X7_revokePermit.eq_1 q pm o x1 x2).symm
  refine lv_aload_n hx hb dX7_revokePermit_0 rfl (lv_at hl 0 rfl) ?_
  refine va_gets (C := RX1) (n := "REVOKE") hx hb (hE.2.2.en.1 4 (by decide)).1 hS hown (hts (.fieldLink RX7 69 "FoodTruckRota$Command" "REVOKE" "LFoodTruckRota$Command;") (by decide +kernel)) (fun _ h9 => h9) dX7_revokePermit_1 ?_
  refine lv_iload_n hx hb dX7_revokePermit_4 rfl (lv_at hl 1 rfl) ?_
  refine lv_iload_n hx hb dX7_revokePermit_5 rfl (lv_at hl 2 rfl) ?_
  refine lv_iconst (v := 0) hx hb dX7_revokePermit_6 (by decide) ?_
  refine vx_calli (vx_runV (As := [.ref (Z 0 4), .int (x1), .int (x2), .int (0)]) (rest := []) ⟨hx, hb, hml, hown, hts⟩ (c_X7_change l hl0 dC Z ad k q pm o g 4 x1 x2 0 (by decide) hpm) (cwV 4 hts gX7_revokePermit_X7_change rfl rfl rfl (by decide +kernel) ⟨Nat.le_of_ble_eq_true rfl, Nat.le_of_ble_eq_true rfl⟩) (ft_preVh hE hS (fun _ h => h) hP hD (ci := 9) (q0 := (253 + 0)) rfl (ft_get' (by decide) rfl)) rfl rfl hl.1 rfl (lv_room (Nat.le_of_ble_eq_true rfl)) dX7_revokePermit_7 ⟨Nat.le_of_ble_eq_true rfl, Nat.le_of_ble_eq_true rfl⟩) hS (fun q _ h => h) (fun q h => h) (fun _ _ h => h) (fun E ce q9 u t H1 locs1 ht hvm hu hB hz1 hk1 hS1 hc1 hc2 hc3 => ?_) (fun z_7 u_7 t H1 locs1 ht hvm hw hB hz1 hk1 hS1 => ?_)
  · exact vx_out (fun x hx9 => (hnt x hx9).elim) hlocks hc1 hc2 hc3 (fun t2 ht2 hv2 => ⟨u, trivial, ⟨(ft_xt_err hB.1.symm hsp).symm, ft_heap ht2 (by rw [← ht]; exact hB.2)⟩, hS1.F ht2⟩) hS1.2.2 (by decide) (by decide)
  replace hsp := ft_xt_ok hw.symm hsp
  rw [ht] at hB
  have hP : va_P dC vwCl (ft_WR ad k Z u_7.1 u_7.2.1 u_7.2.2 g) H1 := hB
  have hD : va_D (ft_A 292 ad) (ft_WR ad k Z u_7.1 u_7.2.1 u_7.2.2 g) := ft_D_va hD _
  have hw_7 := hw
  have hS := hS1
  clear hS1
  generalize H1 = H at hP hS ⊢
  refine lv_if_le (tgt := 17) hx hb dX7_revokePermit_10 (by decide) (fun c_10 => ?_) (fun c_10 => ?_)
  · replace hsp := (if_pos c_10).symm.trans hsp
    refine lv_iconst (v := 0) hx hb dX7_revokePermit_17 (by decide) ?_
    refine vx_ret ?_
    refine W.widen (k := 1) (n := 6) (by decide) (by decide) ?_
    exact W.zret (v := 0) hx hb hr (rfl) (fun t ht hW => ⟨⟨0, (u_7.1, u_7.2.1, u_7.2.2), rfl, hsp, ft_heap ht hP⟩, hS.F ht⟩) hS.2.2 dX7_revokePermit_18
  · replace hsp := (if_neg c_10).symm.trans hsp
    refine lv_iconst (v := 1) hx hb dX7_revokePermit_13 (by decide) ?_
    refine lv_goto (tgt := 18) hx hb dX7_revokePermit_14 (by decide) ?_
    refine vx_ret ?_
    refine W.widen (k := 1) (n := 6) (by decide) (by decide) ?_
    exact W.zret (v := 1) hx hb hr (rfl) (fun t ht hW => ⟨⟨1, (u_7.1, u_7.2.1, u_7.2.2), rfl, hsp, ft_heap ht hP⟩, hS.F ht⟩) hS.2.2 dX7_revokePermit_18

def s_X7_assign (q : Nat → Nat → Int32) (pm : Nat → Nat) (o : Nat → Int32) (x1 : Int32) (x2 : Int32) (x3 : Int32) : Except String Int32 × ft_St := ft_xt (s_X7_change q pm o 5 x1 x2 x3) (fun z_7 u_7 => (.ok z_7, (u_7.1, u_7.2.1, u_7.2.2)))
set_option maxHeartbeats 4000000 in
set_option maxRecDepth 100000 in
theorem c_X7_assign (l : Launch) (hl0 : l.stackTraces = false) (dC : va_G) (Z : Nat → Nat → Nat) (ad : Nat → Nat) (k : Nat → ClassId) (q : Nat → Nat → Int32) (pm : Nat → Nat) (o : Nat → Int32) (g : ft_G) (x1 : Int32) (x2 : Int32) (x3 : Int32) (hpm : ∀ i, i < 8 → pm i < 8) : vx_Met l yX7_assign wsX7_assign ({ frames := 8, cells := 1, slots := 6, locals := 169 }) (ft_Pf dC k Z (ft_A 292 ad) [.ref (ad 253), .int x1, .int x2, .int x3] (ft_WR ad k Z q pm o g)) (va_Qi (fun (z : Int32) (u : ft_St) => (.ok z, u) = s_X7_assign q pm o x1 x2 x3) (fun (u : ft_St) (t : State) => va_P dC vwCl (ft_WR ad k Z u.1 u.2.1 u.2.2 g) t.heap) (ft_A 292 ad)) (vx_X (fun (_ : ft_St) => True) (fun (E : String) (u : ft_St) (t : State) => (.error E, u) = s_X7_assign q pm o x1 x2 x3 ∧ va_P dC vwCl (ft_WR ad k Z u.1 u.2.1 u.2.2 g) t.heap) (ft_A 292 ad)) 1 6 (ft_A 292 ad) := by
  refine vx_ofW (cc := cX7_assign) (maxL := 4) (ret := (some .int)) (by decide) rfl ?_
  intro p e s m args below meth c s₁ B hml hnt hv
  obtain ⟨hargs, hP, hE, hD0⟩ := hv
  have hK := hE.1
  subst hargs
  have hx := B.exec
  have hb := B.bytes
  have hr := B.returns
  have hts := atoms_spec (ws := wsX7_assign) B.pre
  have hown : s.vm.findClass RX7 = some m.cls := findClass_of_methodNamed B.named
  have hlocks := B.notSynchronized
  have hD := ft_D_self hD0
  have hS : va_S (ft_A 292 ad) s.heap s.heap [] := va_S.rf
  have hl := lv_entry ([.ref (ad 253), .int x1, .int x2, .int x3]) (n := 4) (Nat.le_of_ble_eq_true rfl)
  rw [lg_entry_eq]
  generalize (lg_sl ([.ref (ad 253), .int x1, .int x2, .int x3]) ++ List.replicate (4 - (lg_sl ([.ref (ad 253), .int x1, .int x2, .int x3])).length) Slot.unset).toArray = ls at hl ⊢
  have hl : lv_has ls 4 [(0, .ref (ad 253)), (1, .int (x1)), (2, .int (x2)), (3, .int (x3))] := hl
  have hsp := (s_X7_assign.eq_1 q pm o x1 x2 x3).symm
  refine lv_aload_n hx hb dX7_assign_0 rfl (lv_at hl 0 rfl) ?_
  refine va_gets (C := RX1) (n := "ASSIGN") hx hb (hE.2.2.en.1 5 (by decide)).1 hS hown (hts (.fieldLink RX7 72 "FoodTruckRota$Command" "ASSIGN" "LFoodTruckRota$Command;") (by decide +kernel)) (fun _ h9 => h9) dX7_assign_1 ?_
  refine lv_iload_n hx hb dX7_assign_4 rfl (lv_at hl 1 rfl) ?_
  refine lv_iload_n hx hb dX7_assign_5 rfl (lv_at hl 2 rfl) ?_
  refine lv_iload_n hx hb dX7_assign_6 rfl (lv_at hl 3 rfl) ?_
  refine vx_calli (vx_runV (As := [.ref (Z 0 5), .int (x1), .int (x2), .int (x3)]) (rest := []) ⟨hx, hb, hml, hown, hts⟩ (c_X7_change l hl0 dC Z ad k q pm o g 5 x1 x2 x3 (by decide) hpm) (cwV 4 hts gX7_assign_X7_change rfl rfl rfl (by decide +kernel) ⟨Nat.le_of_ble_eq_true rfl, Nat.le_of_ble_eq_true rfl⟩) (ft_preVh hE hS (fun _ h => h) hP hD (ci := 9) (q0 := (253 + 0)) rfl (ft_get' (by decide) rfl)) rfl rfl hl.1 rfl (lv_room (Nat.le_of_ble_eq_true rfl)) dX7_assign_7 ⟨Nat.le_of_ble_eq_true rfl, Nat.le_of_ble_eq_true rfl⟩) hS (fun q _ h => h) (fun q h => h) (fun _ _ h => h) (fun E ce q9 u t H1 locs1 ht hvm hu hB hz1 hk1 hS1 hc1 hc2 hc3 => ?_) (fun z_7 u_7 t H1 locs1 ht hvm hw hB hz1 hk1 hS1 => ?_)
  · exact vx_out (fun x hx9 => (hnt x hx9).elim) hlocks hc1 hc2 hc3 (fun t2 ht2 hv2 => ⟨u, trivial, ⟨(ft_xt_err hB.1.symm hsp).symm, ft_heap ht2 (by rw [← ht]; exact hB.2)⟩, hS1.F ht2⟩) hS1.2.2 (by decide) (by decide)
  replace hsp := ft_xt_ok hw.symm hsp
  rw [ht] at hB
  have hP : va_P dC vwCl (ft_WR ad k Z u_7.1 u_7.2.1 u_7.2.2 g) H1 := hB
  have hD : va_D (ft_A 292 ad) (ft_WR ad k Z u_7.1 u_7.2.1 u_7.2.2 g) := ft_D_va hD _
  have hw_7 := hw
  have hS := hS1
  clear hS1
  generalize H1 = H at hP hS ⊢
  refine vx_ret ?_
  refine W.widen (k := 1) (n := 6) (by decide) (by decide) ?_
  exact W.iret (v := z_7) hx hb hr (fun t ht hW => ⟨⟨z_7, (u_7.1, u_7.2.1, u_7.2.2), rfl, hsp, ft_heap ht hP⟩, hS.F ht⟩) hS.2.2 dX7_assign_10

def s_X7_release (q : Nat → Nat → Int32) (pm : Nat → Nat) (o : Nat → Int32) (x1 : Int32) (x2 : Int32) : Except String Int32 × ft_St := ft_xt (s_X7_change q pm o 6 x1 x2 0) (fun z_7 u_7 => (.ok z_7, (u_7.1, u_7.2.1, u_7.2.2)))
set_option maxHeartbeats 4000000 in
set_option maxRecDepth 100000 in
theorem c_X7_release (l : Launch) (hl0 : l.stackTraces = false) (dC : va_G) (Z : Nat → Nat → Nat) (ad : Nat → Nat) (k : Nat → ClassId) (q : Nat → Nat → Int32) (pm : Nat → Nat) (o : Nat → Int32) (g : ft_G) (x1 : Int32) (x2 : Int32) (hpm : ∀ i, i < 8 → pm i < 8) : vx_Met l yX7_release wsX7_release ({ frames := 8, cells := 1, slots := 6, locals := 169 }) (ft_Pf dC k Z (ft_A 292 ad) [.ref (ad 253), .int x1, .int x2] (ft_WR ad k Z q pm o g)) (va_Qi (fun (z : Int32) (u : ft_St) => (.ok z, u) = s_X7_release q pm o x1 x2) (fun (u : ft_St) (t : State) => va_P dC vwCl (ft_WR ad k Z u.1 u.2.1 u.2.2 g) t.heap) (ft_A 292 ad)) (vx_X (fun (_ : ft_St) => True) (fun (E : String) (u : ft_St) (t : State) => (.error E, u) = s_X7_release q pm o x1 x2 ∧ va_P dC vwCl (ft_WR ad k Z u.1 u.2.1 u.2.2 g) t.heap) (ft_A 292 ad)) 1 6 (ft_A 292 ad) := by
  refine vx_ofW (cc := cX7_release) (maxL := 3) (ret := (some .int)) (by decide) rfl ?_
  intro p e s m args below meth c s₁ B hml hnt hv
  obtain ⟨hargs, hP, hE, hD0⟩ := hv
  have hK := hE.1
  subst hargs
  have hx := B.exec
  have hb := B.bytes
  have hr := B.returns
  have hts := atoms_spec (ws := wsX7_release) B.pre
  have hown : s.vm.findClass RX7 = some m.cls := findClass_of_methodNamed B.named
  have hlocks := B.notSynchronized
  have hD := ft_D_self hD0
  have hS : va_S (ft_A 292 ad) s.heap s.heap [] := va_S.rf
  have hl := lv_entry ([.ref (ad 253), .int x1, .int x2]) (n := 3) (Nat.le_of_ble_eq_true rfl)
  rw [lg_entry_eq]
  generalize (lg_sl ([.ref (ad 253), .int x1, .int x2]) ++ List.replicate (3 - (lg_sl ([.ref (ad 253), .int x1, .int x2])).length) Slot.unset).toArray = ls at hl ⊢
  have hl : lv_has ls 3 [(0, .ref (ad 253)), (1, .int (x1)), (2, .int (x2))] := hl
  have hsp := (s_X7_release.eq_1 q pm o x1 x2).symm
  refine lv_aload_n hx hb dX7_release_0 rfl (lv_at hl 0 rfl) ?_
  refine va_gets (C := RX1) (n := "FREE") hx hb (hE.2.2.en.1 6 (by decide)).1 hS hown (hts (.fieldLink RX7 75 "FoodTruckRota$Command" "FREE" "LFoodTruckRota$Command;") (by decide +kernel)) (fun _ h9 => h9) dX7_release_1 ?_
  refine lv_iload_n hx hb dX7_release_4 rfl (lv_at hl 1 rfl) ?_
  refine lv_iload_n hx hb dX7_release_5 rfl (lv_at hl 2 rfl) ?_
  refine lv_iconst (v := 0) hx hb dX7_release_6 (by decide) ?_
  refine vx_calli (vx_runV (As := [.ref (Z 0 6), .int (x1), .int (x2), .int (0)]) (rest := []) ⟨hx, hb, hml, hown, hts⟩ (c_X7_change l hl0 dC Z ad k q pm o g 6 x1 x2 0 (by decide) hpm) (cwV 4 hts gX7_release_X7_change rfl rfl rfl (by decide +kernel) ⟨Nat.le_of_ble_eq_true rfl, Nat.le_of_ble_eq_true rfl⟩) (ft_preVh hE hS (fun _ h => h) hP hD (ci := 9) (q0 := (253 + 0)) rfl (ft_get' (by decide) rfl)) rfl rfl hl.1 rfl (lv_room (Nat.le_of_ble_eq_true rfl)) dX7_release_7 ⟨Nat.le_of_ble_eq_true rfl, Nat.le_of_ble_eq_true rfl⟩) hS (fun q _ h => h) (fun q h => h) (fun _ _ h => h) (fun E ce q9 u t H1 locs1 ht hvm hu hB hz1 hk1 hS1 hc1 hc2 hc3 => ?_) (fun z_7 u_7 t H1 locs1 ht hvm hw hB hz1 hk1 hS1 => ?_)
  · exact vx_out (fun x hx9 => (hnt x hx9).elim) hlocks hc1 hc2 hc3 (fun t2 ht2 hv2 => ⟨u, trivial, ⟨(ft_xt_err hB.1.symm hsp).symm, ft_heap ht2 (by rw [← ht]; exact hB.2)⟩, hS1.F ht2⟩) hS1.2.2 (by decide) (by decide)
  replace hsp := ft_xt_ok hw.symm hsp
  rw [ht] at hB
  have hP : va_P dC vwCl (ft_WR ad k Z u_7.1 u_7.2.1 u_7.2.2 g) H1 := hB
  have hD : va_D (ft_A 292 ad) (ft_WR ad k Z u_7.1 u_7.2.1 u_7.2.2 g) := ft_D_va hD _
  have hw_7 := hw
  have hS := hS1
  clear hS1
  generalize H1 = H at hP hS ⊢
  refine vx_ret ?_
  refine W.widen (k := 1) (n := 6) (by decide) (by decide) ?_
  exact W.iret (v := z_7) hx hb hr (fun t ht hW => ⟨⟨z_7, (u_7.1, u_7.2.1, u_7.2.2), rfl, hsp, ft_heap ht hP⟩, hS.F ht⟩) hS.2.2 dX7_release_10

def s_X7_setWeather (q : Nat → Nat → Int32) (pm : Nat → Nat) (o : Nat → Int32) (x1 : Int32) : Except String Int32 × ft_St := ft_xt (s_X7_change q pm o 7 x1 0 0) (fun z_7 u_7 => (.ok z_7, (u_7.1, u_7.2.1, u_7.2.2)))
set_option maxHeartbeats 4000000 in
set_option maxRecDepth 100000 in
theorem c_X7_setWeather (l : Launch) (hl0 : l.stackTraces = false) (dC : va_G) (Z : Nat → Nat → Nat) (ad : Nat → Nat) (k : Nat → ClassId) (q : Nat → Nat → Int32) (pm : Nat → Nat) (o : Nat → Int32) (g : ft_G) (x1 : Int32) (hpm : ∀ i, i < 8 → pm i < 8) : vx_Met l yX7_setWeather wsX7_setWeather ({ frames := 8, cells := 1, slots := 6, locals := 169 }) (ft_Pf dC k Z (ft_A 292 ad) [.ref (ad 253), .int x1] (ft_WR ad k Z q pm o g)) (va_Qi (fun (z : Int32) (u : ft_St) => (.ok z, u) = s_X7_setWeather q pm o x1) (fun (u : ft_St) (t : State) => va_P dC vwCl (ft_WR ad k Z u.1 u.2.1 u.2.2 g) t.heap) (ft_A 292 ad)) (vx_X (fun (_ : ft_St) => True) (fun (E : String) (u : ft_St) (t : State) => (.error E, u) = s_X7_setWeather q pm o x1 ∧ va_P dC vwCl (ft_WR ad k Z u.1 u.2.1 u.2.2 g) t.heap) (ft_A 292 ad)) 1 6 (ft_A 292 ad) := by
  refine vx_ofW (cc := cX7_setWeather) (maxL := 2) (ret := (some .int)) (by decide) rfl ?_
  intro p e s m args below meth c s₁ B hml hnt hv
  obtain ⟨hargs, hP, hE, hD0⟩ := hv
  have hK := hE.1
  subst hargs
  have hx := B.exec
  have hb := B.bytes
  have hr := B.returns
  have hts := atoms_spec (ws := wsX7_setWeather) B.pre
  have hown : s.vm.findClass RX7 = some m.cls := findClass_of_methodNamed B.named
  have hlocks := B.notSynchronized
  have hD := ft_D_self hD0
  have hS : va_S (ft_A 292 ad) s.heap s.heap [] := va_S.rf
  have hl := lv_entry ([.ref (ad 253), .int x1]) (n := 2) (Nat.le_of_ble_eq_true rfl)
  rw [lg_entry_eq]
  generalize (lg_sl ([.ref (ad 253), .int x1]) ++ List.replicate (2 - (lg_sl ([.ref (ad 253), .int x1])).length) Slot.unset).toArray = ls at hl ⊢
  have hl : lv_has ls 2 [(0, .ref (ad 253)), (1, .int (x1))] := hl
  have hsp := (s_X7_setWeather.eq_1 q pm o x1).symm
  refine lv_aload_n hx hb dX7_setWeather_0 rfl (lv_at hl 0 rfl) ?_
  refine va_gets (C := RX1) (n := "WEATHER") hx hb (hE.2.2.en.1 7 (by decide)).1 hS hown (hts (.fieldLink RX7 78 "FoodTruckRota$Command" "WEATHER" "LFoodTruckRota$Command;") (by decide +kernel)) (fun _ h9 => h9) dX7_setWeather_1 ?_
  refine lv_iload_n hx hb dX7_setWeather_4 rfl (lv_at hl 1 rfl) ?_
  refine lv_iconst (v := 0) hx hb dX7_setWeather_5 (by decide) ?_
  refine lv_iconst (v := 0) hx hb dX7_setWeather_6 (by decide) ?_
  refine vx_calli (vx_runV (As := [.ref (Z 0 7), .int (x1), .int (0), .int (0)]) (rest := []) ⟨hx, hb, hml, hown, hts⟩ (c_X7_change l hl0 dC Z ad k q pm o g 7 x1 0 0 (by decide) hpm) (cwV 4 hts gX7_setWeather_X7_change rfl rfl rfl (by decide +kernel) ⟨Nat.le_of_ble_eq_true rfl, Nat.le_of_ble_eq_true rfl⟩) (ft_preVh hE hS (fun _ h => h) hP hD (ci := 9) (q0 := (253 + 0)) rfl (ft_get' (by decide) rfl)) rfl rfl hl.1 rfl (lv_room (Nat.le_of_ble_eq_true rfl)) dX7_setWeather_7 ⟨Nat.le_of_ble_eq_true rfl, Nat.le_of_ble_eq_true rfl⟩) hS (fun q _ h => h) (fun q h => h) (fun _ _ h => h) (fun E ce q9 u t H1 locs1 ht hvm hu hB hz1 hk1 hS1 hc1 hc2 hc3 => ?_) (fun z_7 u_7 t H1 locs1 ht hvm hw hB hz1 hk1 hS1 => ?_)
  · exact vx_out (fun x hx9 => (hnt x hx9).elim) hlocks hc1 hc2 hc3 (fun t2 ht2 hv2 => ⟨u, trivial, ⟨(ft_xt_err hB.1.symm hsp).symm, ft_heap ht2 (by rw [← ht]; exact hB.2)⟩, hS1.F ht2⟩) hS1.2.2 (by decide) (by decide)
  replace hsp := ft_xt_ok hw.symm hsp
  rw [ht] at hB
  have hP : va_P dC vwCl (ft_WR ad k Z u_7.1 u_7.2.1 u_7.2.2 g) H1 := hB
  have hD : va_D (ft_A 292 ad) (ft_WR ad k Z u_7.1 u_7.2.1 u_7.2.2 g) := ft_D_va hD _
  have hw_7 := hw
  have hS := hS1
  clear hS1
  generalize H1 = H at hP hS ⊢
  refine vx_ret ?_
  refine W.widen (k := 1) (n := 6) (by decide) (by decide) ?_
  exact W.iret (v := z_7) hx hb hr (fun t ht hW => ⟨⟨z_7, (u_7.1, u_7.2.1, u_7.2.2), rfl, hsp, ft_heap ht hP⟩, hS.F ht⟩) hS.2.2 dX7_setWeather_10

def s_X7_advance (q : Nat → Nat → Int32) (pm : Nat → Nat) (o : Nat → Int32) (x1 : Int32) : Except String Int32 × ft_St := ft_xt (s_X7_change q pm o 8 x1 0 0) (fun z_7 u_7 => (.ok z_7, (u_7.1, u_7.2.1, u_7.2.2)))
set_option maxHeartbeats 4000000 in
set_option maxRecDepth 100000 in
theorem c_X7_advance (l : Launch) (hl0 : l.stackTraces = false) (dC : va_G) (Z : Nat → Nat → Nat) (ad : Nat → Nat) (k : Nat → ClassId) (q : Nat → Nat → Int32) (pm : Nat → Nat) (o : Nat → Int32) (g : ft_G) (x1 : Int32) (hpm : ∀ i, i < 8 → pm i < 8) : vx_Met l yX7_advance wsX7_advance ({ frames := 8, cells := 1, slots := 6, locals := 169 }) (ft_Pf dC k Z (ft_A 292 ad) [.ref (ad 253), .int x1] (ft_WR ad k Z q pm o g)) (va_Qi (fun (z : Int32) (u : ft_St) => (.ok z, u) = s_X7_advance q pm o x1) (fun (u : ft_St) (t : State) => va_P dC vwCl (ft_WR ad k Z u.1 u.2.1 u.2.2 g) t.heap) (ft_A 292 ad)) (vx_X (fun (_ : ft_St) => True) (fun (E : String) (u : ft_St) (t : State) => (.error E, u) = s_X7_advance q pm o x1 ∧ va_P dC vwCl (ft_WR ad k Z u.1 u.2.1 u.2.2 g) t.heap) (ft_A 292 ad)) 1 6 (ft_A 292 ad) := by
  refine vx_ofW (cc := cX7_advance) (maxL := 2) (ret := (some .int)) (by decide) rfl ?_
  intro p e s m args below meth c s₁ B hml hnt hv
  obtain ⟨hargs, hP, hE, hD0⟩ := hv
  have hK := hE.1
  subst hargs
  have hx := B.exec
  have hb := B.bytes
  have hr := B.returns
  have hts := atoms_spec (ws := wsX7_advance) B.pre
  have hown : s.vm.findClass RX7 = some m.cls := findClass_of_methodNamed B.named
  have hlocks := B.notSynchronized
  have hD := ft_D_self hD0
  have hS : va_S (ft_A 292 ad) s.heap s.heap [] := va_S.rf
  have hl := lv_entry ([.ref (ad 253), .int x1]) (n := 2) (Nat.le_of_ble_eq_true rfl)
  rw [lg_entry_eq]
  generalize (lg_sl ([.ref (ad 253), .int x1]) ++ List.replicate (2 - (lg_sl ([.ref (ad 253), .int x1])).length) Slot.unset).toArray = ls at hl ⊢
  have hl : lv_has ls 2 [(0, .ref (ad 253)), (1, .int (x1))] := hl
  have hsp := (s_X7_advance.eq_1 q pm o x1).symm
  refine lv_aload_n hx hb dX7_advance_0 rfl (lv_at hl 0 rfl) ?_
  refine va_gets (C := RX1) (n := "WAIT") hx hb (hE.2.2.en.1 8 (by decide)).1 hS hown (hts (.fieldLink RX7 81 "FoodTruckRota$Command" "WAIT" "LFoodTruckRota$Command;") (by decide +kernel)) (fun _ h9 => h9) dX7_advance_1 ?_
  refine lv_iload_n hx hb dX7_advance_4 rfl (lv_at hl 1 rfl) ?_
  refine lv_iconst (v := 0) hx hb dX7_advance_5 (by decide) ?_
  refine lv_iconst (v := 0) hx hb dX7_advance_6 (by decide) ?_
  refine vx_calli (vx_runV (As := [.ref (Z 0 8), .int (x1), .int (0), .int (0)]) (rest := []) ⟨hx, hb, hml, hown, hts⟩ (c_X7_change l hl0 dC Z ad k q pm o g 8 x1 0 0 (by decide) hpm) (cwV 4 hts gX7_advance_X7_change rfl rfl rfl (by decide +kernel) ⟨Nat.le_of_ble_eq_true rfl, Nat.le_of_ble_eq_true rfl⟩) (ft_preVh hE hS (fun _ h => h) hP hD (ci := 9) (q0 := (253 + 0)) rfl (ft_get' (by decide) rfl)) rfl rfl hl.1 rfl (lv_room (Nat.le_of_ble_eq_true rfl)) dX7_advance_7 ⟨Nat.le_of_ble_eq_true rfl, Nat.le_of_ble_eq_true rfl⟩) hS (fun q _ h => h) (fun q h => h) (fun _ _ h => h) (fun E ce q9 u t H1 locs1 ht hvm hu hB hz1 hk1 hS1 hc1 hc2 hc3 => ?_) (fun z_7 u_7 t H1 locs1 ht hvm hw hB hz1 hk1 hS1 => ?_)
  · exact vx_out (fun x hx9 => (hnt x hx9).elim) hlocks hc1 hc2 hc3 (fun t2 ht2 hv2 => ⟨u, trivial, ⟨(ft_xt_err hB.1.symm hsp).symm, ft_heap ht2 (by rw [← ht]; exact hB.2)⟩, hS1.F ht2⟩) hS1.2.2 (by decide) (by decide)
  replace hsp := ft_xt_ok hw.symm hsp
  rw [ht] at hB
  have hP : va_P dC vwCl (ft_WR ad k Z u_7.1 u_7.2.1 u_7.2.2 g) H1 := hB
  have hD : va_D (ft_A 292 ad) (ft_WR ad k Z u_7.1 u_7.2.1 u_7.2.2 g) := ft_D_va hD _
  have hw_7 := hw
  have hS := hS1
  clear hS1
  generalize H1 = H at hP hS ⊢
  refine vx_ret ?_
  refine W.widen (k := 1) (n := 6) (by decide) (by decide) ?_
  exact W.iret (v := z_7) hx hb hr (fun t ht hW => ⟨⟨z_7, (u_7.1, u_7.2.1, u_7.2.2), rfl, hsp, ft_heap ht hP⟩, hS.F ht⟩) hS.2.2 dX7_advance_10
