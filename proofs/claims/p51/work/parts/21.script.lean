theorem ft_nle {a b : Int32} (h : ¬ a ≤ b) : b < a := by rw [Int32.lt_iff_toInt_lt]; rw [Int32.le_iff_toInt_le] at h; omega
theorem ft_R_B1 {D : va_G} {ad : Nat → Nat} {k : Nat → ClassId} {Z : Nat → Nat → Nat} {q : Nat → Nat → Int32} {pm : Nat → Nat} {o : Nat → Int32} {g : ft_G} {H : Heap} (hP : va_P D vwCl (ft_WR ad k Z q pm o g) H) : va_P D vwCl (ft_WB (fun j => ad (258 + j)) k (o 8, o 6, g.1.1, g.1.2)) H :=
  ft_P_sub (m := 2) hP (fun j => 258 + j) (fun j hj => by have : j < 2 := hj; omega) (fun _ _ => rfl) (fun j hj => match j, hj with
    | 0, _ => rfl
    | 1, _ => rfl)

def s_X3_nextIs (q : Nat → Nat → Int32) (pm : Nat → Nat) (o : Nat → Int32) (g : ft_G) (x1 : Int32) : Int32 × ft_St := if (o 5) < 0 then ((0, (q, pm, o))) else (if (s_J4_length_8abf5 (o 8, o 6, g.1.1, g.1.2)) ≤ (o 5) then ((0, (q, pm, o))) else (if (s_J4_charAt_5068e (o 8, o 6, g.1.1, g.1.2) (o 5)) = x1 then ((1, (q, pm, o))) else ((0, (q, pm, o)))))
set_option maxHeartbeats 4000000 in
set_option maxRecDepth 100000 in
theorem c_X3_nextIs (l : Launch) (dC : va_G) (Z : Nat → Nat → Nat) (ad : Nat → Nat) (k : Nat → ClassId) (q : Nat → Nat → Int32) (pm : Nat → Nat) (o : Nat → Int32) (g : ft_G) (x1 : Int32) (hc1 : o 6 ≤ nI g.1.1) (hc2 : g.1.1 < 2 ^ 31) : Met l yX3_nextIs wsX3_nextIs ({ frames := 4, cells := 0, slots := 0, locals := 88 }) (ft_Pf dC k Z (ft_A 292 ad) [.ref (ad 256), .int x1] (ft_WR ad k Z q pm o g)) (va_Qi (fun (z : Int32) (u : ft_St) => (z, u) = s_X3_nextIs q pm o g x1) (fun (u : ft_St) (t : State) => va_P dC vwCl (ft_WR ad k Z u.1 u.2.1 u.2.2 g) t.heap) (ft_A 292 ad)) 0 0 (ft_A 292 ad) := by
  refine Met.ofW (cc := cX3_nextIs) (maxL := 2) (ret := (some .boolean)) (by decide) rfl ?_
  intro p e s m args below meth c s₁ B hml hv
  obtain ⟨hargs, hP, hE, hD0⟩ := hv
  have hK := hE.1
  subst hargs
  have hx := B.exec
  have hb := B.bytes
  have hr := B.returns
  have hts := atoms_spec (ws := wsX3_nextIs) B.pre
  have hown : s.vm.findClass RX3 = some m.cls := findClass_of_methodNamed B.named
  have hlocks := B.notSynchronized
  have hD := ft_D_self hD0
  have hS : va_S (ft_A 292 ad) s.heap s.heap [] := va_S.rf
  have hl := lv_entry ([.ref (ad 256), .int x1]) (n := 2) (Nat.le_of_ble_eq_true rfl)
  rw [lg_entry_eq]
  generalize (lg_sl ([.ref (ad 256), .int x1]) ++ List.replicate (2 - (lg_sl ([.ref (ad 256), .int x1])).length) Slot.unset).toArray = ls at hl ⊢
  have hl : lv_has ls 2 [(0, .ref (ad 256)), (1, .int (x1))] := hl
  have hsp := (s_X3_nextIs.eq_1 q pm o g x1).symm
  refine lv_aload_n hx hb dX3_nextIs_0 rfl (lv_at hl 0 rfl) ?_
  refine va_get (D := dC) (ci := 5) (v := .int (o 5)) (C := RX3) (T := TX3) (N := 4) hx hb hts (by decide +kernel) hown hK.1 hP (253 + 3) (ft_get' (by decide) rfl) rfl 3 (by decide) (hts (.fieldLink RX3 25 "FoodTruckRota$Script" "position" "I") (by decide +kernel)) (fun _ h9 => h9) rfl dX3_nextIs_1 ?_
  refine lv_if_lt (tgt := 40) hx hb dX3_nextIs_4 (by decide) (fun c_4 => ?_) (fun c_4 => ?_)
  · replace hsp := (if_pos c_4).symm.trans hsp
    refine lv_iconst (v := 0) hx hb dX3_nextIs_40 (by decide) ?_
    exact W.zret (v := 0) hx hb hr (rfl) (fun t ht hW => ⟨⟨0, (q, pm, o), rfl, hsp, ft_heap ht hP⟩, hS.F ht⟩) hS.2.2 dX3_nextIs_41
  · replace hsp := (if_neg c_4).symm.trans hsp
    refine lv_aload_n hx hb dX3_nextIs_7 rfl (lv_at hl 0 rfl) ?_
    refine va_get (D := dC) (ci := 5) (v := .int (o 5)) (C := RX3) (T := TX3) (N := 4) hx hb hts (by decide +kernel) hown hK.1 hP (253 + 3) (ft_get' (by decide) rfl) rfl 3 (by decide) (hts (.fieldLink RX3 25 "FoodTruckRota$Script" "position" "I") (by decide +kernel)) (fun _ h9 => h9) rfl dX3_nextIs_8 ?_
    refine lv_aload_n hx hb dX3_nextIs_11 rfl (lv_at hl 0 rfl) ?_
    refine va_get (D := dC) (ci := 5) (v := .ref (ad 258)) (C := RX3) (T := TX3) (N := 4) hx hb hts (by decide +kernel) hown hK.1 hP (253 + 3) (ft_get' (by decide) rfl) rfl 0 (by decide) (hts (.fieldLink RX3 12 "FoodTruckRota$Script" "text" "Ljava/lang/StringBuilder;") (by decide +kernel)) (fun _ h9 => h9) rfl dX3_nextIs_12 ?_
    refine vp_callSi (va_Run.run (va_runV (As := []) (rest := [.int (o 5)]) ⟨hx, hb, hml, hown, hts⟩ (c_J4_length_8abf5 l dC (fun j => ad (258 + j)) k (o 8, o 6, g.1.1, g.1.2)) (cwV 0 hts gX3_nextIs_J4_length_8abf5 rfl rfl rfl (by decide +kernel) ⟨Nat.le_of_ble_eq_true rfl, Nat.le_of_ble_eq_true rfl⟩) (ft_preVc hK (ft_R_B1 hP) (ci := 1) rfl (ft_get' (by decide) rfl)) rfl rfl hl.1 rfl (lv_room (Nat.le_of_ble_eq_true rfl)) dX3_nextIs_15 ⟨Nat.le_of_ble_eq_true rfl, Nat.le_of_ble_eq_true rfl⟩)) (fun z hz => ?_)
    subst hz
    refine lv_icmp_ge (tgt := 40) hx hb dX3_nextIs_18 (by decide) (fun c_18 => ?_) (fun c_18 => ?_)
    · replace hsp := (if_pos c_18).symm.trans hsp
      refine lv_iconst (v := 0) hx hb dX3_nextIs_40 (by decide) ?_
      exact W.zret (v := 0) hx hb hr (rfl) (fun t ht hW => ⟨⟨0, (q, pm, o), rfl, hsp, ft_heap ht hP⟩, hS.F ht⟩) hS.2.2 dX3_nextIs_41
    · replace hsp := (if_neg c_18).symm.trans hsp
      refine lv_aload_n hx hb dX3_nextIs_21 rfl (lv_at hl 0 rfl) ?_
      refine va_get (D := dC) (ci := 5) (v := .ref (ad 258)) (C := RX3) (T := TX3) (N := 4) hx hb hts (by decide +kernel) hown hK.1 hP (253 + 3) (ft_get' (by decide) rfl) rfl 0 (by decide) (hts (.fieldLink RX3 12 "FoodTruckRota$Script" "text" "Ljava/lang/StringBuilder;") (by decide +kernel)) (fun _ h9 => h9) rfl dX3_nextIs_22 ?_
      refine lv_aload_n hx hb dX3_nextIs_25 rfl (lv_at hl 0 rfl) ?_
      refine va_get (D := dC) (ci := 5) (v := .int (o 5)) (C := RX3) (T := TX3) (N := 4) hx hb hts (by decide +kernel) hown hK.1 hP (253 + 3) (ft_get' (by decide) rfl) rfl 3 (by decide) (hts (.fieldLink RX3 25 "FoodTruckRota$Script" "position" "I") (by decide +kernel)) (fun _ h9 => h9) rfl dX3_nextIs_26 ?_
      refine vp_callSi (va_Run.run (va_runV (As := [.int (o 5)]) (rest := []) ⟨hx, hb, hml, hown, hts⟩ (c_J4_charAt_5068e l dC Z (ft_A 292 ad) (fun j => ad (258 + j)) k (o 8, o 6, g.1.1, g.1.2) (o 5) c_4 (ft_nle c_18) hc2 hc1) (cwV 1 hts gX3_nextIs_J4_charAt_5068e rfl rfl rfl (by decide +kernel) ⟨Nat.le_of_ble_eq_true rfl, Nat.le_of_ble_eq_true rfl⟩) (ft_preVe hE hS (fun _ h => h) (ft_R_B1 hP) (ci := 1) rfl (ft_get' (by decide) rfl)) rfl rfl hl.1 rfl (lv_room (Nat.le_of_ble_eq_true rfl)) dX3_nextIs_29 ⟨Nat.le_of_ble_eq_true rfl, Nat.le_of_ble_eq_true rfl⟩)) (fun z hz => ?_)
      subst hz
      refine lv_iload_n hx hb dX3_nextIs_32 rfl (lv_at hl 1 rfl) ?_
      refine lv_icmp_ne (tgt := 40) hx hb dX3_nextIs_33 (by decide) (fun c_33 => ?_) (fun c_33 => ?_)
      · replace hsp := (if_neg c_33).symm.trans hsp
        refine lv_iconst (v := 0) hx hb dX3_nextIs_40 (by decide) ?_
        exact W.zret (v := 0) hx hb hr (rfl) (fun t ht hW => ⟨⟨0, (q, pm, o), rfl, hsp, ft_heap ht hP⟩, hS.F ht⟩) hS.2.2 dX3_nextIs_41
      · replace hsp := (if_pos c_33).symm.trans hsp
        refine lv_iconst (v := 1) hx hb dX3_nextIs_36 (by decide) ?_
        refine lv_goto (tgt := 41) hx hb dX3_nextIs_37 (by decide) ?_
        exact W.zret (v := 1) hx hb hr (rfl) (fun t ht hW => ⟨⟨1, (q, pm, o), rfl, hsp, ft_heap ht hP⟩, hS.F ht⟩) hS.2.2 dX3_nextIs_41

def s_X3_readSign (q : Nat → Nat → Int32) (pm : Nat → Nat) (o : Nat → Int32) (g : ft_G) (x1 : Int32) : Int32 × ft_St := if ((s_X3_nextIs q pm o g x1).1) = 0 then ((0, ((s_X3_nextIs q pm o g x1).2.1, (s_X3_nextIs q pm o g x1).2.2.1, (s_X3_nextIs q pm o g x1).2.2.2))) else ((1, ((s_X3_nextIs q pm o g x1).2.1, (s_X3_nextIs q pm o g x1).2.2.1, va_up ((s_X3_nextIs q pm o g x1).2.2.2) 5 ((((s_X3_nextIs q pm o g x1).2.2.2) 5) + 1))))
set_option maxHeartbeats 4000000 in
set_option maxRecDepth 100000 in
theorem c_X3_readSign (l : Launch) (dC : va_G) (Z : Nat → Nat → Nat) (ad : Nat → Nat) (k : Nat → ClassId) (q : Nat → Nat → Int32) (pm : Nat → Nat) (o : Nat → Int32) (g : ft_G) (x1 : Int32) (hc1 : o 6 ≤ nI g.1.1) (hc2 : g.1.1 < 2 ^ 31) : Met l yX3_readSign wsX3_readSign ({ frames := 5, cells := 0, slots := 0, locals := 109 }) (ft_Pf dC k Z (ft_A 292 ad) [.ref (ad 256), .int x1] (ft_WR ad k Z q pm o g)) (va_Qi (fun (z : Int32) (u : ft_St) => (z, u) = s_X3_readSign q pm o g x1) (fun (u : ft_St) (t : State) => va_P dC vwCl (ft_WR ad k Z u.1 u.2.1 u.2.2 g) t.heap) (ft_A 292 ad)) 0 0 (ft_A 292 ad) := by
  refine Met.ofW (cc := cX3_readSign) (maxL := 2) (ret := (some .boolean)) (by decide) rfl ?_
  intro p e s m args below meth c s₁ B hml hv
  obtain ⟨hargs, hP, hE, hD0⟩ := hv
  have hK := hE.1
  subst hargs
  have hx := B.exec
  have hb := B.bytes
  have hr := B.returns
  have hts := atoms_spec (ws := wsX3_readSign) B.pre
  have hown : s.vm.findClass RX3 = some m.cls := findClass_of_methodNamed B.named
  have hlocks := B.notSynchronized
  have hD := ft_D_self hD0
  have hS : va_S (ft_A 292 ad) s.heap s.heap [] := va_S.rf
  have hl := lv_entry ([.ref (ad 256), .int x1]) (n := 2) (Nat.le_of_ble_eq_true rfl)
  rw [lg_entry_eq]
  generalize (lg_sl ([.ref (ad 256), .int x1]) ++ List.replicate (2 - (lg_sl ([.ref (ad 256), .int x1])).length) Slot.unset).toArray = ls at hl ⊢
  have hl : lv_has ls 2 [(0, .ref (ad 256)), (1, .int (x1))] := hl
  have hsp := (s_X3_readSign.eq_1 q pm o g x1).symm
  refine lv_aload_n hx hb dX3_readSign_0 rfl (lv_at hl 0 rfl) ?_
  refine lv_iload_n hx hb dX3_readSign_1 rfl (lv_at hl 1 rfl) ?_
  refine va_calli (va_runV (As := [.int (x1)]) (rest := []) ⟨hx, hb, hml, hown, hts⟩ (c_X3_nextIs l dC Z ad k q pm o g x1  hc1 hc2) (cwV 1 hts gX3_readSign_X3_nextIs rfl rfl rfl (by decide +kernel) ⟨Nat.le_of_ble_eq_true rfl, Nat.le_of_ble_eq_true rfl⟩) (ft_preVh hE hS (fun _ h => h) hP hD (ci := 5) (q0 := (253 + 3)) rfl (ft_get' (by decide) rfl)) rfl rfl hl.1 rfl (lv_room (Nat.le_of_ble_eq_true rfl)) dX3_readSign_2 ⟨Nat.le_of_ble_eq_true rfl, Nat.le_of_ble_eq_true rfl⟩) hS (fun q _ h => h) (fun q h => h) (fun z u t H1 locs ht hvm hw hB hz1 hk1 hS => ?_)
  obtain ⟨rfl, rfl⟩ : z = (s_X3_nextIs q pm o g x1).1 ∧ u = (s_X3_nextIs q pm o g x1).2 := ⟨congrArg Prod.fst hw, congrArg Prod.snd hw⟩
  rw [ht] at hB
  have hP : va_P dC vwCl (ft_WR ad k Z ((s_X3_nextIs q pm o g x1).2.1) ((s_X3_nextIs q pm o g x1).2.2.1) ((s_X3_nextIs q pm o g x1).2.2.2) g) H1 := hB
  have hD : va_D (ft_A 292 ad) (ft_WR ad k Z ((s_X3_nextIs q pm o g x1).2.1) ((s_X3_nextIs q pm o g x1).2.2.1) ((s_X3_nextIs q pm o g x1).2.2.2) g) := ft_D_va hD _
  generalize H1 = H at hP hS ⊢
  refine lv_if_ne (tgt := 10) hx hb dX3_readSign_5 (by decide) (fun c_5 => ?_) (fun c_5 => ?_)
  · replace hsp := (if_neg c_5).symm.trans hsp
    refine lv_aload_n hx hb dX3_readSign_10 rfl (lv_at hl 0 rfl) ?_
    refine lv_dup hx hb dX3_readSign_11 rfl ?_
    refine va_get (D := dC) (ci := 5) (v := .int (((s_X3_nextIs q pm o g x1).2.2.2) 5)) (C := RX3) (T := TX3) (N := 4) hx hb hts (by decide +kernel) hown hK.1 hP (253 + 3) (ft_get' (by decide) rfl) rfl 3 (by decide) (hts (.fieldLink RX3 25 "FoodTruckRota$Script" "position" "I") (by decide +kernel)) (fun _ h9 => h9) rfl dX3_readSign_12 ?_
    refine lv_iconst (v := 1) hx hb dX3_readSign_15 (by decide) ?_
    refine lv_iadd hx hb dX3_readSign_16 ?_
    refine va_put (D := dC) (ci := 5) (v := .int ((((s_X3_nextIs q pm o g x1).2.2.2) 5) + 1)) (ty := .int) (C := RX3) (T := TX3) (N := 4) hx hb hts (by decide +kernel) tyX3 tyX3_ok nmX3 hown hK.1 hP hD hS (253 + 3) (ft_get' (by decide) rfl) rfl 3 (by decide) (hts (.fieldLink RX3 25 "FoodTruckRota$Script" "position" "I") (by decide +kernel)) (fun _ h9 => h9) rfl (by decide +kernel) rfl rfl (Nat.le_of_ble_eq_true rfl) dX3_readSign_17 (fun H locs hP hD hS => ?_)
    have hP := ft_cast hP (ft_R_p5)
    have hD := ft_castD hD (ft_R_p5)
    have hP : va_P dC vwCl (ft_WR ad k Z ((s_X3_nextIs q pm o g x1).2.1) ((s_X3_nextIs q pm o g x1).2.2.1) (va_up ((s_X3_nextIs q pm o g x1).2.2.2) 5 ((((s_X3_nextIs q pm o g x1).2.2.2) 5) + 1)) g) H := hP
    have hD : va_D (ft_A 292 ad) (ft_WR ad k Z ((s_X3_nextIs q pm o g x1).2.1) ((s_X3_nextIs q pm o g x1).2.2.1) (va_up ((s_X3_nextIs q pm o g x1).2.2.2) 5 ((((s_X3_nextIs q pm o g x1).2.2.2) 5) + 1)) g) := hD
    refine lv_iconst (v := 1) hx hb dX3_readSign_20 (by decide) ?_
    exact W.zret (v := 1) hx hb hr (rfl) (fun t ht hW => ⟨⟨1, ((s_X3_nextIs q pm o g x1).2.1, (s_X3_nextIs q pm o g x1).2.2.1, va_up ((s_X3_nextIs q pm o g x1).2.2.2) 5 ((((s_X3_nextIs q pm o g x1).2.2.2) 5) + 1)), rfl, hsp, ft_heap ht hP⟩, hS.F ht⟩) hS.2.2 dX3_readSign_21
  · replace hsp := (if_pos c_5).symm.trans hsp
    refine lv_iconst (v := 0) hx hb dX3_readSign_8 (by decide) ?_
    exact W.zret (v := 0) hx hb hr (rfl) (fun t ht hW => ⟨⟨0, ((s_X3_nextIs q pm o g x1).2.1, (s_X3_nextIs q pm o g x1).2.2.1, (s_X3_nextIs q pm o g x1).2.2.2), rfl, hsp, ft_heap ht hP⟩, hS.F ht⟩) hS.2.2 dX3_readSign_9

def s_X3_readDigit (q : Nat → Nat → Int32) (pm : Nat → Nat) (o : Nat → Int32) (g : ft_G)  : Int32 × ft_St := if (o 5) < 0 then (((-1), (q, pm, o))) else (if (o 5) < (s_J4_length_8abf5 (o 8, o 6, g.1.1, g.1.2)) then (if (s_J4_charAt_5068e (o 8, o 6, g.1.1, g.1.2) (o 5)) < 48 then (((-1), (q, pm, o))) else (if (s_J4_charAt_5068e (o 8, o 6, g.1.1, g.1.2) (o 5)) ≤ 57 then (((s_J4_charAt_5068e (o 8, o 6, g.1.1, g.1.2) (o 5)) - 48, (q, pm, va_up o 5 ((o 5) + 1)))) else (((-1), (q, pm, o))))) else (((-1), (q, pm, o))))
set_option maxHeartbeats 4000000 in
set_option maxRecDepth 100000 in
theorem c_X3_readDigit (l : Launch) (dC : va_G) (Z : Nat → Nat → Nat) (ad : Nat → Nat) (k : Nat → ClassId) (q : Nat → Nat → Int32) (pm : Nat → Nat) (o : Nat → Int32) (g : ft_G)  (hc1 : o 6 ≤ nI g.1.1) (hc2 : g.1.1 < 2 ^ 31) : Met l yX3_readDigit wsX3_readDigit ({ frames := 4, cells := 0, slots := 0, locals := 88 }) (ft_Pf dC k Z (ft_A 292 ad) [.ref (ad 256)] (ft_WR ad k Z q pm o g)) (va_Qi (fun (z : Int32) (u : ft_St) => (z, u) = s_X3_readDigit q pm o g) (fun (u : ft_St) (t : State) => va_P dC vwCl (ft_WR ad k Z u.1 u.2.1 u.2.2 g) t.heap) (ft_A 292 ad)) 0 0 (ft_A 292 ad) := by
  refine Met.ofW (cc := cX3_readDigit) (maxL := 2) (ret := (some .int)) (by decide) rfl ?_
  intro p e s m args below meth c s₁ B hml hv
  obtain ⟨hargs, hP, hE, hD0⟩ := hv
  have hK := hE.1
  subst hargs
  have hx := B.exec
  have hb := B.bytes
  have hr := B.returns
  have hts := atoms_spec (ws := wsX3_readDigit) B.pre
  have hown : s.vm.findClass RX3 = some m.cls := findClass_of_methodNamed B.named
  have hlocks := B.notSynchronized
  have hD := ft_D_self hD0
  have hS : va_S (ft_A 292 ad) s.heap s.heap [] := va_S.rf
  have hl := lv_entry ([.ref (ad 256)]) (n := 2) (Nat.le_of_ble_eq_true rfl)
  rw [lg_entry_eq]
  generalize (lg_sl ([.ref (ad 256)]) ++ List.replicate (2 - (lg_sl ([.ref (ad 256)])).length) Slot.unset).toArray = ls at hl ⊢
  have hl : lv_has ls 2 [(0, .ref (ad 256))] := hl
  have hsp := (s_X3_readDigit.eq_1 q pm o g ).symm
  refine lv_aload_n hx hb dX3_readDigit_0 rfl (lv_at hl 0 rfl) ?_
  refine va_get (D := dC) (ci := 5) (v := .int (o 5)) (C := RX3) (T := TX3) (N := 4) hx hb hts (by decide +kernel) hown hK.1 hP (253 + 3) (ft_get' (by decide) rfl) rfl 3 (by decide) (hts (.fieldLink RX3 25 "FoodTruckRota$Script" "position" "I") (by decide +kernel)) (fun _ h9 => h9) rfl dX3_readDigit_1 ?_
  refine lv_if_lt (tgt := 21) hx hb dX3_readDigit_4 (by decide) (fun c_4 => ?_) (fun c_4 => ?_)
  · replace hsp := (if_pos c_4).symm.trans hsp
    refine lv_iconst (v := (-1)) hx hb dX3_readDigit_21 (by decide) ?_
    exact W.iret (v := (-1)) hx hb hr (fun t ht hW => ⟨⟨(-1), (q, pm, o), rfl, hsp, ft_heap ht hP⟩, hS.F ht⟩) hS.2.2 dX3_readDigit_22
  · replace hsp := (if_neg c_4).symm.trans hsp
    refine lv_aload_n hx hb dX3_readDigit_7 rfl (lv_at hl 0 rfl) ?_
    refine va_get (D := dC) (ci := 5) (v := .int (o 5)) (C := RX3) (T := TX3) (N := 4) hx hb hts (by decide +kernel) hown hK.1 hP (253 + 3) (ft_get' (by decide) rfl) rfl 3 (by decide) (hts (.fieldLink RX3 25 "FoodTruckRota$Script" "position" "I") (by decide +kernel)) (fun _ h9 => h9) rfl dX3_readDigit_8 ?_
    refine lv_aload_n hx hb dX3_readDigit_11 rfl (lv_at hl 0 rfl) ?_
    refine va_get (D := dC) (ci := 5) (v := .ref (ad 258)) (C := RX3) (T := TX3) (N := 4) hx hb hts (by decide +kernel) hown hK.1 hP (253 + 3) (ft_get' (by decide) rfl) rfl 0 (by decide) (hts (.fieldLink RX3 12 "FoodTruckRota$Script" "text" "Ljava/lang/StringBuilder;") (by decide +kernel)) (fun _ h9 => h9) rfl dX3_readDigit_12 ?_
    refine vp_callSi (va_Run.run (va_runV (As := []) (rest := [.int (o 5)]) ⟨hx, hb, hml, hown, hts⟩ (c_J4_length_8abf5 l dC (fun j => ad (258 + j)) k (o 8, o 6, g.1.1, g.1.2)) (cwV 0 hts gX3_readDigit_J4_length_8abf5 rfl rfl rfl (by decide +kernel) ⟨Nat.le_of_ble_eq_true rfl, Nat.le_of_ble_eq_true rfl⟩) (ft_preVc hK (ft_R_B1 hP) (ci := 1) rfl (ft_get' (by decide) rfl)) rfl rfl hl.1 rfl (lv_room (Nat.le_of_ble_eq_true rfl)) dX3_readDigit_15 ⟨Nat.le_of_ble_eq_true rfl, Nat.le_of_ble_eq_true rfl⟩)) (fun z hz => ?_)
    subst hz
    refine lv_icmp_lt (tgt := 23) hx hb dX3_readDigit_18 (by decide) (fun c_18 => ?_) (fun c_18 => ?_)
    · replace hsp := (if_pos c_18).symm.trans hsp
      refine lv_aload_n hx hb dX3_readDigit_23 rfl (lv_at hl 0 rfl) ?_
      refine va_get (D := dC) (ci := 5) (v := .ref (ad 258)) (C := RX3) (T := TX3) (N := 4) hx hb hts (by decide +kernel) hown hK.1 hP (253 + 3) (ft_get' (by decide) rfl) rfl 0 (by decide) (hts (.fieldLink RX3 12 "FoodTruckRota$Script" "text" "Ljava/lang/StringBuilder;") (by decide +kernel)) (fun _ h9 => h9) rfl dX3_readDigit_24 ?_
      refine lv_aload_n hx hb dX3_readDigit_27 rfl (lv_at hl 0 rfl) ?_
      refine va_get (D := dC) (ci := 5) (v := .int (o 5)) (C := RX3) (T := TX3) (N := 4) hx hb hts (by decide +kernel) hown hK.1 hP (253 + 3) (ft_get' (by decide) rfl) rfl 3 (by decide) (hts (.fieldLink RX3 25 "FoodTruckRota$Script" "position" "I") (by decide +kernel)) (fun _ h9 => h9) rfl dX3_readDigit_28 ?_
      refine vp_callSi (va_Run.run (va_runV (As := [.int (o 5)]) (rest := []) ⟨hx, hb, hml, hown, hts⟩ (c_J4_charAt_5068e l dC Z (ft_A 292 ad) (fun j => ad (258 + j)) k (o 8, o 6, g.1.1, g.1.2) (o 5) c_4 c_18 hc2 hc1) (cwV 1 hts gX3_readDigit_J4_charAt_5068e rfl rfl rfl (by decide +kernel) ⟨Nat.le_of_ble_eq_true rfl, Nat.le_of_ble_eq_true rfl⟩) (ft_preVe hE hS (fun _ h => h) (ft_R_B1 hP) (ci := 1) rfl (ft_get' (by decide) rfl)) rfl rfl hl.1 rfl (lv_room (Nat.le_of_ble_eq_true rfl)) dX3_readDigit_31 ⟨Nat.le_of_ble_eq_true rfl, Nat.le_of_ble_eq_true rfl⟩)) (fun z hz => ?_)
      subst hz
      refine lv_istore_n (lv' := [(1, .int ((s_J4_charAt_5068e (o 8, o 6, g.1.1, g.1.2) (o 5)))), (0, .ref (ad 256))]) hx hb dX3_readDigit_34 rfl hl (by decide) rfl (fun ls hl => ?_)
      refine lv_iload_n hx hb dX3_readDigit_35 rfl (lv_at hl 0 rfl) ?_
      refine lv_bipush (v := 48) hx hb dX3_readDigit_36 (by decide) ?_
      refine lv_icmp_lt (tgt := 47) hx hb dX3_readDigit_38 (by decide) (fun c_38 => ?_) (fun c_38 => ?_)
      · replace hsp := (if_pos c_38).symm.trans hsp
        refine lv_iconst (v := (-1)) hx hb dX3_readDigit_47 (by decide) ?_
        exact W.iret (v := (-1)) hx hb hr (fun t ht hW => ⟨⟨(-1), (q, pm, o), rfl, hsp, ft_heap ht hP⟩, hS.F ht⟩) hS.2.2 dX3_readDigit_48
      · replace hsp := (if_neg c_38).symm.trans hsp
        refine lv_iload_n hx hb dX3_readDigit_41 rfl (lv_at hl 0 rfl) ?_
        refine lv_bipush (v := 57) hx hb dX3_readDigit_42 (by decide) ?_
        refine lv_icmp_le (tgt := 49) hx hb dX3_readDigit_44 (by decide) (fun c_44 => ?_) (fun c_44 => ?_)
        · replace hsp := (if_pos c_44).symm.trans hsp
          refine lv_aload_n hx hb dX3_readDigit_49 rfl (lv_at hl 1 rfl) ?_
          refine lv_dup hx hb dX3_readDigit_50 rfl ?_
          refine va_get (D := dC) (ci := 5) (v := .int (o 5)) (C := RX3) (T := TX3) (N := 4) hx hb hts (by decide +kernel) hown hK.1 hP (253 + 3) (ft_get' (by decide) rfl) rfl 3 (by decide) (hts (.fieldLink RX3 25 "FoodTruckRota$Script" "position" "I") (by decide +kernel)) (fun _ h9 => h9) rfl dX3_readDigit_51 ?_
          refine lv_iconst (v := 1) hx hb dX3_readDigit_54 (by decide) ?_
          refine lv_iadd hx hb dX3_readDigit_55 ?_
          refine va_put (D := dC) (ci := 5) (v := .int ((o 5) + 1)) (ty := .int) (C := RX3) (T := TX3) (N := 4) hx hb hts (by decide +kernel) tyX3 tyX3_ok nmX3 hown hK.1 hP hD hS (253 + 3) (ft_get' (by decide) rfl) rfl 3 (by decide) (hts (.fieldLink RX3 25 "FoodTruckRota$Script" "position" "I") (by decide +kernel)) (fun _ h9 => h9) rfl (by decide +kernel) rfl rfl (Nat.le_of_ble_eq_true rfl) dX3_readDigit_56 (fun H locs hP hD hS => ?_)
          have hP := ft_cast hP (ft_R_p5)
          have hD := ft_castD hD (ft_R_p5)
          have hP : va_P dC vwCl (ft_WR ad k Z q pm (va_up o 5 ((o 5) + 1)) g) H := hP
          have hD : va_D (ft_A 292 ad) (ft_WR ad k Z q pm (va_up o 5 ((o 5) + 1)) g) := hD
          refine lv_iload_n hx hb dX3_readDigit_59 rfl (lv_at hl 0 rfl) ?_
          refine lv_bipush (v := 48) hx hb dX3_readDigit_60 (by decide) ?_
          refine lv_isub hx hb dX3_readDigit_62 ?_
          exact W.iret (v := (s_J4_charAt_5068e (o 8, o 6, g.1.1, g.1.2) (o 5)) - 48) hx hb hr (fun t ht hW => ⟨⟨(s_J4_charAt_5068e (o 8, o 6, g.1.1, g.1.2) (o 5)) - 48, (q, pm, va_up o 5 ((o 5) + 1)), rfl, hsp, ft_heap ht hP⟩, hS.F ht⟩) hS.2.2 dX3_readDigit_63
        · replace hsp := (if_neg c_44).symm.trans hsp
          refine lv_iconst (v := (-1)) hx hb dX3_readDigit_47 (by decide) ?_
          exact W.iret (v := (-1)) hx hb hr (fun t ht hW => ⟨⟨(-1), (q, pm, o), rfl, hsp, ft_heap ht hP⟩, hS.F ht⟩) hS.2.2 dX3_readDigit_48
    · replace hsp := (if_neg c_18).symm.trans hsp
      refine lv_iconst (v := (-1)) hx hb dX3_readDigit_21 (by decide) ?_
      exact W.iret (v := (-1)) hx hb hr (fun t ht hW => ⟨⟨(-1), (q, pm, o), rfl, hsp, ft_heap ht hP⟩, hS.F ht⟩) hS.2.2 dX3_readDigit_22

theorem o_nextIs {q : Nat → Nat → Int32} {pm : Nat → Nat} {o : Nat → Int32} {g : ft_G} {x : Int32} : (s_X3_nextIs q pm o g x).2 = (q, pm, o) := by
  unfold s_X3_nextIs
  split
  · rfl
  · split
    · rfl
    · split <;> rfl
theorem o6_readSign {q : Nat → Nat → Int32} {pm : Nat → Nat} {o : Nat → Int32} {g : ft_G} {x : Int32} : (s_X3_readSign q pm o g x).2.2.2 6 = o 6 := by
  unfold s_X3_readSign
  rw [o_nextIs]
  split <;> rfl
theorem o6_readDigit {q : Nat → Nat → Int32} {pm : Nat → Nat} {o : Nat → Int32} {g : ft_G} : (s_X3_readDigit q pm o g).2.2.2 6 = o 6 := by
  unfold s_X3_readDigit
  split
  · rfl
  · split
    · split
      · rfl
      · split <;> rfl
    · rfl

def s_X3_readArgument (q : Nat → Nat → Int32) (pm : Nat → Nat) (o : Nat → Int32) (g : ft_G) (x1 : Int32) : Int32 × ft_St := if ((s_X3_readSign q pm o g 32).1) = 0 then (((-1), ((s_X3_readSign q pm o g 32).2.1, (s_X3_readSign q pm o g 32).2.2.1, (s_X3_readSign q pm o g 32).2.2.2))) else (if ((s_X3_readDigit ((s_X3_readSign q pm o g 32).2.1) ((s_X3_readSign q pm o g 32).2.2.1) ((s_X3_readSign q pm o g 32).2.2.2) g).1) = (-1) then (((s_X3_readDigit ((s_X3_readSign q pm o g 32).2.1) ((s_X3_readSign q pm o g 32).2.2.1) ((s_X3_readSign q pm o g 32).2.2.2) g).1, ((s_X3_readDigit ((s_X3_readSign q pm o g 32).2.1) ((s_X3_readSign q pm o g 32).2.2.1) ((s_X3_readSign q pm o g 32).2.2.2) g).2.1, (s_X3_readDigit ((s_X3_readSign q pm o g 32).2.1) ((s_X3_readSign q pm o g 32).2.2.1) ((s_X3_readSign q pm o g 32).2.2.2) g).2.2.1, (s_X3_readDigit ((s_X3_readSign q pm o g 32).2.1) ((s_X3_readSign q pm o g 32).2.2.1) ((s_X3_readSign q pm o g 32).2.2.2) g).2.2.2))) else (if x1 = 0 then (((s_X3_readDigit ((s_X3_readSign q pm o g 32).2.1) ((s_X3_readSign q pm o g 32).2.2.1) ((s_X3_readSign q pm o g 32).2.2.2) g).1, ((s_X3_readDigit ((s_X3_readSign q pm o g 32).2.1) ((s_X3_readSign q pm o g 32).2.2.1) ((s_X3_readSign q pm o g 32).2.2.2) g).2.1, (s_X3_readDigit ((s_X3_readSign q pm o g 32).2.1) ((s_X3_readSign q pm o g 32).2.2.1) ((s_X3_readSign q pm o g 32).2.2.2) g).2.2.1, (s_X3_readDigit ((s_X3_readSign q pm o g 32).2.1) ((s_X3_readSign q pm o g 32).2.2.1) ((s_X3_readSign q pm o g 32).2.2.2) g).2.2.2))) else (if ((s_X3_readDigit ((s_X3_readDigit ((s_X3_readSign q pm o g 32).2.1) ((s_X3_readSign q pm o g 32).2.2.1) ((s_X3_readSign q pm o g 32).2.2.2) g).2.1) ((s_X3_readDigit ((s_X3_readSign q pm o g 32).2.1) ((s_X3_readSign q pm o g 32).2.2.1) ((s_X3_readSign q pm o g 32).2.2.2) g).2.2.1) ((s_X3_readDigit ((s_X3_readSign q pm o g 32).2.1) ((s_X3_readSign q pm o g 32).2.2.1) ((s_X3_readSign q pm o g 32).2.2.2) g).2.2.2) g).1) = (-1) then (((s_X3_readDigit ((s_X3_readSign q pm o g 32).2.1) ((s_X3_readSign q pm o g 32).2.2.1) ((s_X3_readSign q pm o g 32).2.2.2) g).1, ((s_X3_readDigit ((s_X3_readDigit ((s_X3_readSign q pm o g 32).2.1) ((s_X3_readSign q pm o g 32).2.2.1) ((s_X3_readSign q pm o g 32).2.2.2) g).2.1) ((s_X3_readDigit ((s_X3_readSign q pm o g 32).2.1) ((s_X3_readSign q pm o g 32).2.2.1) ((s_X3_readSign q pm o g 32).2.2.2) g).2.2.1) ((s_X3_readDigit ((s_X3_readSign q pm o g 32).2.1) ((s_X3_readSign q pm o g 32).2.2.1) ((s_X3_readSign q pm o g 32).2.2.2) g).2.2.2) g).2.1, (s_X3_readDigit ((s_X3_readDigit ((s_X3_readSign q pm o g 32).2.1) ((s_X3_readSign q pm o g 32).2.2.1) ((s_X3_readSign q pm o g 32).2.2.2) g).2.1) ((s_X3_readDigit ((s_X3_readSign q pm o g 32).2.1) ((s_X3_readSign q pm o g 32).2.2.1) ((s_X3_readSign q pm o g 32).2.2.2) g).2.2.1) ((s_X3_readDigit ((s_X3_readSign q pm o g 32).2.1) ((s_X3_readSign q pm o g 32).2.2.1) ((s_X3_readSign q pm o g 32).2.2.2) g).2.2.2) g).2.2.1, (s_X3_readDigit ((s_X3_readDigit ((s_X3_readSign q pm o g 32).2.1) ((s_X3_readSign q pm o g 32).2.2.1) ((s_X3_readSign q pm o g 32).2.2.2) g).2.1) ((s_X3_readDigit ((s_X3_readSign q pm o g 32).2.1) ((s_X3_readSign q pm o g 32).2.2.1) ((s_X3_readSign q pm o g 32).2.2.2) g).2.2.1) ((s_X3_readDigit ((s_X3_readSign q pm o g 32).2.1) ((s_X3_readSign q pm o g 32).2.2.1) ((s_X3_readSign q pm o g 32).2.2.2) g).2.2.2) g).2.2.2))) else (((((s_X3_readDigit ((s_X3_readSign q pm o g 32).2.1) ((s_X3_readSign q pm o g 32).2.2.1) ((s_X3_readSign q pm o g 32).2.2.2) g).1) * 10) + ((s_X3_readDigit ((s_X3_readDigit ((s_X3_readSign q pm o g 32).2.1) ((s_X3_readSign q pm o g 32).2.2.1) ((s_X3_readSign q pm o g 32).2.2.2) g).2.1) ((s_X3_readDigit ((s_X3_readSign q pm o g 32).2.1) ((s_X3_readSign q pm o g 32).2.2.1) ((s_X3_readSign q pm o g 32).2.2.2) g).2.2.1) ((s_X3_readDigit ((s_X3_readSign q pm o g 32).2.1) ((s_X3_readSign q pm o g 32).2.2.1) ((s_X3_readSign q pm o g 32).2.2.2) g).2.2.2) g).1), ((s_X3_readDigit ((s_X3_readDigit ((s_X3_readSign q pm o g 32).2.1) ((s_X3_readSign q pm o g 32).2.2.1) ((s_X3_readSign q pm o g 32).2.2.2) g).2.1) ((s_X3_readDigit ((s_X3_readSign q pm o g 32).2.1) ((s_X3_readSign q pm o g 32).2.2.1) ((s_X3_readSign q pm o g 32).2.2.2) g).2.2.1) ((s_X3_readDigit ((s_X3_readSign q pm o g 32).2.1) ((s_X3_readSign q pm o g 32).2.2.1) ((s_X3_readSign q pm o g 32).2.2.2) g).2.2.2) g).2.1, (s_X3_readDigit ((s_X3_readDigit ((s_X3_readSign q pm o g 32).2.1) ((s_X3_readSign q pm o g 32).2.2.1) ((s_X3_readSign q pm o g 32).2.2.2) g).2.1) ((s_X3_readDigit ((s_X3_readSign q pm o g 32).2.1) ((s_X3_readSign q pm o g 32).2.2.1) ((s_X3_readSign q pm o g 32).2.2.2) g).2.2.1) ((s_X3_readDigit ((s_X3_readSign q pm o g 32).2.1) ((s_X3_readSign q pm o g 32).2.2.1) ((s_X3_readSign q pm o g 32).2.2.2) g).2.2.2) g).2.2.1, (s_X3_readDigit ((s_X3_readDigit ((s_X3_readSign q pm o g 32).2.1) ((s_X3_readSign q pm o g 32).2.2.1) ((s_X3_readSign q pm o g 32).2.2.2) g).2.1) ((s_X3_readDigit ((s_X3_readSign q pm o g 32).2.1) ((s_X3_readSign q pm o g 32).2.2.1) ((s_X3_readSign q pm o g 32).2.2.2) g).2.2.1) ((s_X3_readDigit ((s_X3_readSign q pm o g 32).2.1) ((s_X3_readSign q pm o g 32).2.2.1) ((s_X3_readSign q pm o g 32).2.2.2) g).2.2.2) g).2.2.2))))))
set_option maxHeartbeats 4000000 in
set_option maxRecDepth 100000 in
theorem c_X3_readArgument (l : Launch) (dC : va_G) (Z : Nat → Nat → Nat) (ad : Nat → Nat) (k : Nat → ClassId) (q : Nat → Nat → Int32) (pm : Nat → Nat) (o : Nat → Int32) (g : ft_G) (x1 : Int32) (hc1 : o 6 ≤ nI g.1.1) (hc2 : g.1.1 < 2 ^ 31) : Met l yX3_readArgument wsX3_readArgument ({ frames := 6, cells := 0, slots := 0, locals := 130 }) (ft_Pf dC k Z (ft_A 292 ad) [.ref (ad 256), .int x1] (ft_WR ad k Z q pm o g)) (va_Qi (fun (z : Int32) (u : ft_St) => (z, u) = s_X3_readArgument q pm o g x1) (fun (u : ft_St) (t : State) => va_P dC vwCl (ft_WR ad k Z u.1 u.2.1 u.2.2 g) t.heap) (ft_A 292 ad)) 0 0 (ft_A 292 ad) := by
  refine Met.ofW (cc := cX3_readArgument) (maxL := 4) (ret := (some .int)) (by decide) rfl ?_
  intro p e s m args below meth c s₁ B hml hv
  obtain ⟨hargs, hP, hE, hD0⟩ := hv
  have hK := hE.1
  subst hargs
  have hx := B.exec
  have hb := B.bytes
  have hr := B.returns
  have hts := atoms_spec (ws := wsX3_readArgument) B.pre
  have hown : s.vm.findClass RX3 = some m.cls := findClass_of_methodNamed B.named
  have hlocks := B.notSynchronized
  have hD := ft_D_self hD0
  have hS : va_S (ft_A 292 ad) s.heap s.heap [] := va_S.rf
  have hl := lv_entry ([.ref (ad 256), .int x1]) (n := 4) (Nat.le_of_ble_eq_true rfl)
  rw [lg_entry_eq]
  generalize (lg_sl ([.ref (ad 256), .int x1]) ++ List.replicate (4 - (lg_sl ([.ref (ad 256), .int x1])).length) Slot.unset).toArray = ls at hl ⊢
  have hl : lv_has ls 4 [(0, .ref (ad 256)), (1, .int (x1))] := hl
  have hsp := (s_X3_readArgument.eq_1 q pm o g x1).symm
  refine lv_aload_n hx hb dX3_readArgument_0 rfl (lv_at hl 0 rfl) ?_
  refine lv_bipush (v := 32) hx hb dX3_readArgument_1 (by decide) ?_
  refine va_calli (va_runV (As := [.int (32)]) (rest := []) ⟨hx, hb, hml, hown, hts⟩ (c_X3_readSign l dC Z ad k q pm o g 32  hc1 hc2) (cwV 1 hts gX3_readArgument_X3_readSign rfl rfl rfl (by decide +kernel) ⟨Nat.le_of_ble_eq_true rfl, Nat.le_of_ble_eq_true rfl⟩) (ft_preVh hE hS (fun _ h => h) hP hD (ci := 5) (q0 := (253 + 3)) rfl (ft_get' (by decide) rfl)) rfl rfl hl.1 rfl (lv_room (Nat.le_of_ble_eq_true rfl)) dX3_readArgument_3 ⟨Nat.le_of_ble_eq_true rfl, Nat.le_of_ble_eq_true rfl⟩) hS (fun q _ h => h) (fun q h => h) (fun z u t H1 locs ht hvm hw hB hz1 hk1 hS => ?_)
  obtain ⟨rfl, rfl⟩ : z = (s_X3_readSign q pm o g 32).1 ∧ u = (s_X3_readSign q pm o g 32).2 := ⟨congrArg Prod.fst hw, congrArg Prod.snd hw⟩
  rw [ht] at hB
  have hP : va_P dC vwCl (ft_WR ad k Z ((s_X3_readSign q pm o g 32).2.1) ((s_X3_readSign q pm o g 32).2.2.1) ((s_X3_readSign q pm o g 32).2.2.2) g) H1 := hB
  have hD : va_D (ft_A 292 ad) (ft_WR ad k Z ((s_X3_readSign q pm o g 32).2.1) ((s_X3_readSign q pm o g 32).2.2.1) ((s_X3_readSign q pm o g 32).2.2.2) g) := ft_D_va hD _
  generalize H1 = H at hP hS ⊢
  refine lv_if_ne (tgt := 11) hx hb dX3_readArgument_6 (by decide) (fun c_6 => ?_) (fun c_6 => ?_)
  · replace hsp := (if_neg c_6).symm.trans hsp
    refine lv_aload_n hx hb dX3_readArgument_11 rfl (lv_at hl 0 rfl) ?_
    refine va_calli (va_runV (As := []) (rest := []) ⟨hx, hb, hml, hown, hts⟩ (c_X3_readDigit l dC Z ad k ((s_X3_readSign q pm o g 32).2.1) ((s_X3_readSign q pm o g 32).2.2.1) ((s_X3_readSign q pm o g 32).2.2.2) g   (by rw [o6_readSign]; exact hc1) hc2) (cwV 0 hts gX3_readArgument_X3_readDigit rfl rfl rfl (by decide +kernel) ⟨Nat.le_of_ble_eq_true rfl, Nat.le_of_ble_eq_true rfl⟩) (ft_preVh hE hS (fun _ h => h) hP hD (ci := 5) (q0 := (253 + 3)) rfl (ft_get' (by decide) rfl)) rfl rfl hl.1 rfl (lv_room (Nat.le_of_ble_eq_true rfl)) dX3_readArgument_12 ⟨Nat.le_of_ble_eq_true rfl, Nat.le_of_ble_eq_true rfl⟩) hS (fun q _ h => h) (fun q h => h) (fun z u t H1 locs ht hvm hw hB hz1 hk1 hS => ?_)
    obtain ⟨rfl, rfl⟩ : z = (s_X3_readDigit ((s_X3_readSign q pm o g 32).2.1) ((s_X3_readSign q pm o g 32).2.2.1) ((s_X3_readSign q pm o g 32).2.2.2) g).1 ∧ u = (s_X3_readDigit ((s_X3_readSign q pm o g 32).2.1) ((s_X3_readSign q pm o g 32).2.2.1) ((s_X3_readSign q pm o g 32).2.2.2) g).2 := ⟨congrArg Prod.fst hw, congrArg Prod.snd hw⟩
    rw [ht] at hB
    have hP : va_P dC vwCl (ft_WR ad k Z ((s_X3_readDigit ((s_X3_readSign q pm o g 32).2.1) ((s_X3_readSign q pm o g 32).2.2.1) ((s_X3_readSign q pm o g 32).2.2.2) g).2.1) ((s_X3_readDigit ((s_X3_readSign q pm o g 32).2.1) ((s_X3_readSign q pm o g 32).2.2.1) ((s_X3_readSign q pm o g 32).2.2.2) g).2.2.1) ((s_X3_readDigit ((s_X3_readSign q pm o g 32).2.1) ((s_X3_readSign q pm o g 32).2.2.1) ((s_X3_readSign q pm o g 32).2.2.2) g).2.2.2) g) H1 := hB
    have hD : va_D (ft_A 292 ad) (ft_WR ad k Z ((s_X3_readDigit ((s_X3_readSign q pm o g 32).2.1) ((s_X3_readSign q pm o g 32).2.2.1) ((s_X3_readSign q pm o g 32).2.2.2) g).2.1) ((s_X3_readDigit ((s_X3_readSign q pm o g 32).2.1) ((s_X3_readSign q pm o g 32).2.2.1) ((s_X3_readSign q pm o g 32).2.2.2) g).2.2.1) ((s_X3_readDigit ((s_X3_readSign q pm o g 32).2.1) ((s_X3_readSign q pm o g 32).2.2.1) ((s_X3_readSign q pm o g 32).2.2.2) g).2.2.2) g) := ft_D_va hD _
    generalize H1 = H at hP hS ⊢
    refine lv_istore_n (lv' := [(2, .int ((s_X3_readDigit ((s_X3_readSign q pm o g 32).2.1) ((s_X3_readSign q pm o g 32).2.2.1) ((s_X3_readSign q pm o g 32).2.2.2) g).1)), (0, .ref (ad 256)), (1, .int (x1))]) hx hb dX3_readArgument_15 rfl hl (by decide) rfl (fun ls hl => ?_)
    refine lv_iload_n hx hb dX3_readArgument_16 rfl (lv_at hl 0 rfl) ?_
    refine lv_iconst (v := (-1)) hx hb dX3_readArgument_17 (by decide) ?_
    refine lv_icmp_eq (tgt := 25) hx hb dX3_readArgument_18 (by decide) (fun c_18 => ?_) (fun c_18 => ?_)
    · replace hsp := (if_pos c_18).symm.trans hsp
      refine lv_iload_n hx hb dX3_readArgument_25 rfl (lv_at hl 0 rfl) ?_
      exact W.iret (v := (s_X3_readDigit ((s_X3_readSign q pm o g 32).2.1) ((s_X3_readSign q pm o g 32).2.2.1) ((s_X3_readSign q pm o g 32).2.2.2) g).1) hx hb hr (fun t ht hW => ⟨⟨(s_X3_readDigit ((s_X3_readSign q pm o g 32).2.1) ((s_X3_readSign q pm o g 32).2.2.1) ((s_X3_readSign q pm o g 32).2.2.2) g).1, ((s_X3_readDigit ((s_X3_readSign q pm o g 32).2.1) ((s_X3_readSign q pm o g 32).2.2.1) ((s_X3_readSign q pm o g 32).2.2.2) g).2.1, (s_X3_readDigit ((s_X3_readSign q pm o g 32).2.1) ((s_X3_readSign q pm o g 32).2.2.1) ((s_X3_readSign q pm o g 32).2.2.2) g).2.2.1, (s_X3_readDigit ((s_X3_readSign q pm o g 32).2.1) ((s_X3_readSign q pm o g 32).2.2.1) ((s_X3_readSign q pm o g 32).2.2.2) g).2.2.2), rfl, hsp, ft_heap ht hP⟩, hS.F ht⟩) hS.2.2 dX3_readArgument_26
    · replace hsp := (if_neg c_18).symm.trans hsp
      refine lv_iload_n hx hb dX3_readArgument_21 rfl (lv_at hl 2 rfl) ?_
      refine lv_if_ne (tgt := 27) hx hb dX3_readArgument_22 (by decide) (fun c_22 => ?_) (fun c_22 => ?_)
      · replace hsp := (if_neg c_22).symm.trans hsp
        refine lv_aload_n hx hb dX3_readArgument_27 rfl (lv_at hl 1 rfl) ?_
        refine va_calli (va_runV (As := []) (rest := []) ⟨hx, hb, hml, hown, hts⟩ (c_X3_readDigit l dC Z ad k ((s_X3_readDigit ((s_X3_readSign q pm o g 32).2.1) ((s_X3_readSign q pm o g 32).2.2.1) ((s_X3_readSign q pm o g 32).2.2.2) g).2.1) ((s_X3_readDigit ((s_X3_readSign q pm o g 32).2.1) ((s_X3_readSign q pm o g 32).2.2.1) ((s_X3_readSign q pm o g 32).2.2.2) g).2.2.1) ((s_X3_readDigit ((s_X3_readSign q pm o g 32).2.1) ((s_X3_readSign q pm o g 32).2.2.1) ((s_X3_readSign q pm o g 32).2.2.2) g).2.2.2) g   (by rw [o6_readDigit, o6_readSign]; exact hc1) hc2) (cwV 0 hts gX3_readArgument_X3_readDigit rfl rfl rfl (by decide +kernel) ⟨Nat.le_of_ble_eq_true rfl, Nat.le_of_ble_eq_true rfl⟩) (ft_preVh hE hS (fun _ h => h) hP hD (ci := 5) (q0 := (253 + 3)) rfl (ft_get' (by decide) rfl)) rfl rfl hl.1 rfl (lv_room (Nat.le_of_ble_eq_true rfl)) dX3_readArgument_28 ⟨Nat.le_of_ble_eq_true rfl, Nat.le_of_ble_eq_true rfl⟩) hS (fun q _ h => h) (fun q h => h) (fun z u t H1 locs ht hvm hw hB hz1 hk1 hS => ?_)
        obtain ⟨rfl, rfl⟩ : z = (s_X3_readDigit ((s_X3_readDigit ((s_X3_readSign q pm o g 32).2.1) ((s_X3_readSign q pm o g 32).2.2.1) ((s_X3_readSign q pm o g 32).2.2.2) g).2.1) ((s_X3_readDigit ((s_X3_readSign q pm o g 32).2.1) ((s_X3_readSign q pm o g 32).2.2.1) ((s_X3_readSign q pm o g 32).2.2.2) g).2.2.1) ((s_X3_readDigit ((s_X3_readSign q pm o g 32).2.1) ((s_X3_readSign q pm o g 32).2.2.1) ((s_X3_readSign q pm o g 32).2.2.2) g).2.2.2) g).1 ∧ u = (s_X3_readDigit ((s_X3_readDigit ((s_X3_readSign q pm o g 32).2.1) ((s_X3_readSign q pm o g 32).2.2.1) ((s_X3_readSign q pm o g 32).2.2.2) g).2.1) ((s_X3_readDigit ((s_X3_readSign q pm o g 32).2.1) ((s_X3_readSign q pm o g 32).2.2.1) ((s_X3_readSign q pm o g 32).2.2.2) g).2.2.1) ((s_X3_readDigit ((s_X3_readSign q pm o g 32).2.1) ((s_X3_readSign q pm o g 32).2.2.1) ((s_X3_readSign q pm o g 32).2.2.2) g).2.2.2) g).2 := ⟨congrArg Prod.fst hw, congrArg Prod.snd hw⟩
        rw [ht] at hB
        have hP : va_P dC vwCl (ft_WR ad k Z ((s_X3_readDigit ((s_X3_readDigit ((s_X3_readSign q pm o g 32).2.1) ((s_X3_readSign q pm o g 32).2.2.1) ((s_X3_readSign q pm o g 32).2.2.2) g).2.1) ((s_X3_readDigit ((s_X3_readSign q pm o g 32).2.1) ((s_X3_readSign q pm o g 32).2.2.1) ((s_X3_readSign q pm o g 32).2.2.2) g).2.2.1) ((s_X3_readDigit ((s_X3_readSign q pm o g 32).2.1) ((s_X3_readSign q pm o g 32).2.2.1) ((s_X3_readSign q pm o g 32).2.2.2) g).2.2.2) g).2.1) ((s_X3_readDigit ((s_X3_readDigit ((s_X3_readSign q pm o g 32).2.1) ((s_X3_readSign q pm o g 32).2.2.1) ((s_X3_readSign q pm o g 32).2.2.2) g).2.1) ((s_X3_readDigit ((s_X3_readSign q pm o g 32).2.1) ((s_X3_readSign q pm o g 32).2.2.1) ((s_X3_readSign q pm o g 32).2.2.2) g).2.2.1) ((s_X3_readDigit ((s_X3_readSign q pm o g 32).2.1) ((s_X3_readSign q pm o g 32).2.2.1) ((s_X3_readSign q pm o g 32).2.2.2) g).2.2.2) g).2.2.1) ((s_X3_readDigit ((s_X3_readDigit ((s_X3_readSign q pm o g 32).2.1) ((s_X3_readSign q pm o g 32).2.2.1) ((s_X3_readSign q pm o g 32).2.2.2) g).2.1) ((s_X3_readDigit ((s_X3_readSign q pm o g 32).2.1) ((s_X3_readSign q pm o g 32).2.2.1) ((s_X3_readSign q pm o g 32).2.2.2) g).2.2.1) ((s_X3_readDigit ((s_X3_readSign q pm o g 32).2.1) ((s_X3_readSign q pm o g 32).2.2.1) ((s_X3_readSign q pm o g 32).2.2.2) g).2.2.2) g).2.2.2) g) H1 := hB
        have hD : va_D (ft_A 292 ad) (ft_WR ad k Z ((s_X3_readDigit ((s_X3_readDigit ((s_X3_readSign q pm o g 32).2.1) ((s_X3_readSign q pm o g 32).2.2.1) ((s_X3_readSign q pm o g 32).2.2.2) g).2.1) ((s_X3_readDigit ((s_X3_readSign q pm o g 32).2.1) ((s_X3_readSign q pm o g 32).2.2.1) ((s_X3_readSign q pm o g 32).2.2.2) g).2.2.1) ((s_X3_readDigit ((s_X3_readSign q pm o g 32).2.1) ((s_X3_readSign q pm o g 32).2.2.1) ((s_X3_readSign q pm o g 32).2.2.2) g).2.2.2) g).2.1) ((s_X3_readDigit ((s_X3_readDigit ((s_X3_readSign q pm o g 32).2.1) ((s_X3_readSign q pm o g 32).2.2.1) ((s_X3_readSign q pm o g 32).2.2.2) g).2.1) ((s_X3_readDigit ((s_X3_readSign q pm o g 32).2.1) ((s_X3_readSign q pm o g 32).2.2.1) ((s_X3_readSign q pm o g 32).2.2.2) g).2.2.1) ((s_X3_readDigit ((s_X3_readSign q pm o g 32).2.1) ((s_X3_readSign q pm o g 32).2.2.1) ((s_X3_readSign q pm o g 32).2.2.2) g).2.2.2) g).2.2.1) ((s_X3_readDigit ((s_X3_readDigit ((s_X3_readSign q pm o g 32).2.1) ((s_X3_readSign q pm o g 32).2.2.1) ((s_X3_readSign q pm o g 32).2.2.2) g).2.1) ((s_X3_readDigit ((s_X3_readSign q pm o g 32).2.1) ((s_X3_readSign q pm o g 32).2.2.1) ((s_X3_readSign q pm o g 32).2.2.2) g).2.2.1) ((s_X3_readDigit ((s_X3_readSign q pm o g 32).2.1) ((s_X3_readSign q pm o g 32).2.2.1) ((s_X3_readSign q pm o g 32).2.2.2) g).2.2.2) g).2.2.2) g) := ft_D_va hD _
        generalize H1 = H at hP hS ⊢
        refine lv_istore_n (lv' := [(3, .int ((s_X3_readDigit ((s_X3_readDigit ((s_X3_readSign q pm o g 32).2.1) ((s_X3_readSign q pm o g 32).2.2.1) ((s_X3_readSign q pm o g 32).2.2.2) g).2.1) ((s_X3_readDigit ((s_X3_readSign q pm o g 32).2.1) ((s_X3_readSign q pm o g 32).2.2.1) ((s_X3_readSign q pm o g 32).2.2.2) g).2.2.1) ((s_X3_readDigit ((s_X3_readSign q pm o g 32).2.1) ((s_X3_readSign q pm o g 32).2.2.1) ((s_X3_readSign q pm o g 32).2.2.2) g).2.2.2) g).1)), (2, .int ((s_X3_readDigit ((s_X3_readSign q pm o g 32).2.1) ((s_X3_readSign q pm o g 32).2.2.1) ((s_X3_readSign q pm o g 32).2.2.2) g).1)), (0, .ref (ad 256)), (1, .int (x1))]) hx hb dX3_readArgument_31 rfl hl (by decide) rfl (fun ls hl => ?_)
        refine lv_iload_n hx hb dX3_readArgument_32 rfl (lv_at hl 0 rfl) ?_
        refine lv_iconst (v := (-1)) hx hb dX3_readArgument_33 (by decide) ?_
        refine lv_icmp_ne (tgt := 41) hx hb dX3_readArgument_34 (by decide) (fun c_34 => ?_) (fun c_34 => ?_)
        · replace hsp := (if_neg c_34).symm.trans hsp
          refine lv_iload_n hx hb dX3_readArgument_41 rfl (lv_at hl 1 rfl) ?_
          refine lv_bipush (v := 10) hx hb dX3_readArgument_42 (by decide) ?_
          refine lv_imul hx hb dX3_readArgument_44 ?_
          refine lv_iload_n hx hb dX3_readArgument_45 rfl (lv_at hl 0 rfl) ?_
          refine lv_iadd hx hb dX3_readArgument_46 ?_
          exact W.iret (v := (((s_X3_readDigit ((s_X3_readSign q pm o g 32).2.1) ((s_X3_readSign q pm o g 32).2.2.1) ((s_X3_readSign q pm o g 32).2.2.2) g).1) * 10) + ((s_X3_readDigit ((s_X3_readDigit ((s_X3_readSign q pm o g 32).2.1) ((s_X3_readSign q pm o g 32).2.2.1) ((s_X3_readSign q pm o g 32).2.2.2) g).2.1) ((s_X3_readDigit ((s_X3_readSign q pm o g 32).2.1) ((s_X3_readSign q pm o g 32).2.2.1) ((s_X3_readSign q pm o g 32).2.2.2) g).2.2.1) ((s_X3_readDigit ((s_X3_readSign q pm o g 32).2.1) ((s_X3_readSign q pm o g 32).2.2.1) ((s_X3_readSign q pm o g 32).2.2.2) g).2.2.2) g).1)) hx hb hr (fun t ht hW => ⟨⟨(((s_X3_readDigit ((s_X3_readSign q pm o g 32).2.1) ((s_X3_readSign q pm o g 32).2.2.1) ((s_X3_readSign q pm o g 32).2.2.2) g).1) * 10) + ((s_X3_readDigit ((s_X3_readDigit ((s_X3_readSign q pm o g 32).2.1) ((s_X3_readSign q pm o g 32).2.2.1) ((s_X3_readSign q pm o g 32).2.2.2) g).2.1) ((s_X3_readDigit ((s_X3_readSign q pm o g 32).2.1) ((s_X3_readSign q pm o g 32).2.2.1) ((s_X3_readSign q pm o g 32).2.2.2) g).2.2.1) ((s_X3_readDigit ((s_X3_readSign q pm o g 32).2.1) ((s_X3_readSign q pm o g 32).2.2.1) ((s_X3_readSign q pm o g 32).2.2.2) g).2.2.2) g).1), ((s_X3_readDigit ((s_X3_readDigit ((s_X3_readSign q pm o g 32).2.1) ((s_X3_readSign q pm o g 32).2.2.1) ((s_X3_readSign q pm o g 32).2.2.2) g).2.1) ((s_X3_readDigit ((s_X3_readSign q pm o g 32).2.1) ((s_X3_readSign q pm o g 32).2.2.1) ((s_X3_readSign q pm o g 32).2.2.2) g).2.2.1) ((s_X3_readDigit ((s_X3_readSign q pm o g 32).2.1) ((s_X3_readSign q pm o g 32).2.2.1) ((s_X3_readSign q pm o g 32).2.2.2) g).2.2.2) g).2.1, (s_X3_readDigit ((s_X3_readDigit ((s_X3_readSign q pm o g 32).2.1) ((s_X3_readSign q pm o g 32).2.2.1) ((s_X3_readSign q pm o g 32).2.2.2) g).2.1) ((s_X3_readDigit ((s_X3_readSign q pm o g 32).2.1) ((s_X3_readSign q pm o g 32).2.2.1) ((s_X3_readSign q pm o g 32).2.2.2) g).2.2.1) ((s_X3_readDigit ((s_X3_readSign q pm o g 32).2.1) ((s_X3_readSign q pm o g 32).2.2.1) ((s_X3_readSign q pm o g 32).2.2.2) g).2.2.2) g).2.2.1, (s_X3_readDigit ((s_X3_readDigit ((s_X3_readSign q pm o g 32).2.1) ((s_X3_readSign q pm o g 32).2.2.1) ((s_X3_readSign q pm o g 32).2.2.2) g).2.1) ((s_X3_readDigit ((s_X3_readSign q pm o g 32).2.1) ((s_X3_readSign q pm o g 32).2.2.1) ((s_X3_readSign q pm o g 32).2.2.2) g).2.2.1) ((s_X3_readDigit ((s_X3_readSign q pm o g 32).2.1) ((s_X3_readSign q pm o g 32).2.2.1) ((s_X3_readSign q pm o g 32).2.2.2) g).2.2.2) g).2.2.2), rfl, hsp, ft_heap ht hP⟩, hS.F ht⟩) hS.2.2 dX3_readArgument_47
        · replace hsp := (if_pos c_34).symm.trans hsp
          refine lv_iload_n hx hb dX3_readArgument_37 rfl (lv_at hl 1 rfl) ?_
          refine lv_goto (tgt := 47) hx hb dX3_readArgument_38 (by decide) ?_
          exact W.iret (v := (s_X3_readDigit ((s_X3_readSign q pm o g 32).2.1) ((s_X3_readSign q pm o g 32).2.2.1) ((s_X3_readSign q pm o g 32).2.2.2) g).1) hx hb hr (fun t ht hW => ⟨⟨(s_X3_readDigit ((s_X3_readSign q pm o g 32).2.1) ((s_X3_readSign q pm o g 32).2.2.1) ((s_X3_readSign q pm o g 32).2.2.2) g).1, ((s_X3_readDigit ((s_X3_readDigit ((s_X3_readSign q pm o g 32).2.1) ((s_X3_readSign q pm o g 32).2.2.1) ((s_X3_readSign q pm o g 32).2.2.2) g).2.1) ((s_X3_readDigit ((s_X3_readSign q pm o g 32).2.1) ((s_X3_readSign q pm o g 32).2.2.1) ((s_X3_readSign q pm o g 32).2.2.2) g).2.2.1) ((s_X3_readDigit ((s_X3_readSign q pm o g 32).2.1) ((s_X3_readSign q pm o g 32).2.2.1) ((s_X3_readSign q pm o g 32).2.2.2) g).2.2.2) g).2.1, (s_X3_readDigit ((s_X3_readDigit ((s_X3_readSign q pm o g 32).2.1) ((s_X3_readSign q pm o g 32).2.2.1) ((s_X3_readSign q pm o g 32).2.2.2) g).2.1) ((s_X3_readDigit ((s_X3_readSign q pm o g 32).2.1) ((s_X3_readSign q pm o g 32).2.2.1) ((s_X3_readSign q pm o g 32).2.2.2) g).2.2.1) ((s_X3_readDigit ((s_X3_readSign q pm o g 32).2.1) ((s_X3_readSign q pm o g 32).2.2.1) ((s_X3_readSign q pm o g 32).2.2.2) g).2.2.2) g).2.2.1, (s_X3_readDigit ((s_X3_readDigit ((s_X3_readSign q pm o g 32).2.1) ((s_X3_readSign q pm o g 32).2.2.1) ((s_X3_readSign q pm o g 32).2.2.2) g).2.1) ((s_X3_readDigit ((s_X3_readSign q pm o g 32).2.1) ((s_X3_readSign q pm o g 32).2.2.1) ((s_X3_readSign q pm o g 32).2.2.2) g).2.2.1) ((s_X3_readDigit ((s_X3_readSign q pm o g 32).2.1) ((s_X3_readSign q pm o g 32).2.2.1) ((s_X3_readSign q pm o g 32).2.2.2) g).2.2.2) g).2.2.2), rfl, hsp, ft_heap ht hP⟩, hS.F ht⟩) hS.2.2 dX3_readArgument_47
      · replace hsp := (if_pos c_22).symm.trans hsp
        refine lv_iload_n hx hb dX3_readArgument_25 rfl (lv_at hl 0 rfl) ?_
        exact W.iret (v := (s_X3_readDigit ((s_X3_readSign q pm o g 32).2.1) ((s_X3_readSign q pm o g 32).2.2.1) ((s_X3_readSign q pm o g 32).2.2.2) g).1) hx hb hr (fun t ht hW => ⟨⟨(s_X3_readDigit ((s_X3_readSign q pm o g 32).2.1) ((s_X3_readSign q pm o g 32).2.2.1) ((s_X3_readSign q pm o g 32).2.2.2) g).1, ((s_X3_readDigit ((s_X3_readSign q pm o g 32).2.1) ((s_X3_readSign q pm o g 32).2.2.1) ((s_X3_readSign q pm o g 32).2.2.2) g).2.1, (s_X3_readDigit ((s_X3_readSign q pm o g 32).2.1) ((s_X3_readSign q pm o g 32).2.2.1) ((s_X3_readSign q pm o g 32).2.2.2) g).2.2.1, (s_X3_readDigit ((s_X3_readSign q pm o g 32).2.1) ((s_X3_readSign q pm o g 32).2.2.1) ((s_X3_readSign q pm o g 32).2.2.2) g).2.2.2), rfl, hsp, ft_heap ht hP⟩, hS.F ht⟩) hS.2.2 dX3_readArgument_26
  · replace hsp := (if_pos c_6).symm.trans hsp
    refine lv_iconst (v := (-1)) hx hb dX3_readArgument_9 (by decide) ?_
    exact W.iret (v := (-1)) hx hb hr (fun t ht hW => ⟨⟨(-1), ((s_X3_readSign q pm o g 32).2.1, (s_X3_readSign q pm o g 32).2.2.1, (s_X3_readSign q pm o g 32).2.2.2), rfl, hsp, ft_heap ht hP⟩, hS.F ht⟩) hS.2.2 dX3_readArgument_10
