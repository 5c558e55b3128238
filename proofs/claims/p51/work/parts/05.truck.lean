theorem in_of2 {x n : Int32} (h1 : ¬ x < 0) (h2 : x < n) : vp_in x (tn n) := by
  have h3 : tn n = n.toInt.toNat := rfl
  rw [vp_in_iff, h3]
  rw [Int32.lt_iff_toInt_lt] at h1 h2
  have : (0 : Int32).toInt = 0 := rfl
  omega
theorem in_of2' {x n : Int32} (h1 : ¬ x < 0) (h2 : ¬ n ≤ x) : vp_in x (tn n) := in_of2 h1 (by rw [Int32.lt_iff_toInt_lt]; rw [Int32.le_iff_toInt_le] at h2; omega)
theorem in_of3 {x n : Int32} {p : Prop} (h1 : ¬ x < 0) (_ : p) (h2 : x < n) : vp_in x (tn n) := in_of2 h1 h2
theorem ft_vin {v bnd : Int32} {i : Nat} (hi : v = nI i) (hlt : i + 1 ≤ tn bnd) : vp_in v (tn bnd) := by
  subst hi
  exact vp_in_nI (by omega) (by have h1 : bnd.toInt < 2 ^ 31 := Int32.toInt_lt bnd; have h2 : tn bnd = bnd.toInt.toNat := rfl; omega)
theorem ft_vin1 {v bnd : Int32} {i : Nat} (hi : v = nI i) (h1 : 1 ≤ i) (hlt : i + 1 ≤ tn bnd) : vp_in (v - 1) (tn bnd) := by
  obtain ⟨j, rfl⟩ : ∃ j, i = j + 1 := ⟨i - 1, by omega⟩
  rw [hi, nI_pred]
  exact vp_in_nI (by omega) (by have h1 : bnd.toInt < 2 ^ 31 := Int32.toInt_lt bnd; have h2 : tn bnd = bnd.toInt.toNat := rfl; omega)

def s_X7_isDish  (x1 : Int32) : Int32 := if x1 < 0 then (0) else (if 4 ≤ x1 then (0) else (1))
set_option maxHeartbeats 4000000 in
set_option maxRecDepth 100000 in
theorem c_X7_isDish (l : Launch)  (x1 : Int32) : Met l yX7_isDish wsX7_isDish ({ frames := 0, cells := 0, slots := 0, locals := 0 }) (ft_Pn [.int x1]) (vp_Si (fun z : Int32 => z = s_X7_isDish x1)) 0 0 (fun _ => False) := by
  refine Met.ofW (cc := cX7_isDish) (maxL := 1) (ret := (some .boolean)) (by decide) rfl ?_
  intro p e s m args below meth c s₁ B hml hv
  obtain ⟨hargs, -⟩ := hv
  subst hargs
  have hx := B.exec
  have hb := B.bytes
  have hr := B.returns
  have hts := atoms_spec (ws := wsX7_isDish) B.pre
  have hown : s.vm.findClass RX7 = some m.cls := findClass_of_methodNamed B.named
  have hlocks := B.notSynchronized
  have hl := lv_entry ([.int x1]) (n := 1) (Nat.le_of_ble_eq_true rfl)
  rw [lg_entry_eq]
  generalize (lg_sl ([.int x1]) ++ List.replicate (1 - (lg_sl ([.int x1])).length) Slot.unset).toArray = ls at hl ⊢
  have hl : lv_has ls 1 [(0, .int (x1))] := hl
  have hsp := (s_X7_isDish.eq_1  x1).symm
  refine lv_iload_n hx hb dX7_isDish_0 rfl (lv_at hl 0 rfl) ?_
  refine lv_if_lt (tgt := 13) hx hb dX7_isDish_1 (by decide) (fun c_1 => ?_) (fun c_1 => ?_)
  · replace hsp := (if_pos c_1).symm.trans hsp
    refine lv_iconst (v := 0) hx hb dX7_isDish_13 (by decide) ?_
    exact W.zret (v := 0) hx hb hr (rfl) (fun t ht hW => ft_endi (post := fun z : Int32 => z = s_X7_isDish x1) hsp ht) (fun _ h => absurd h List.not_mem_nil) dX7_isDish_14
  · replace hsp := (if_neg c_1).symm.trans hsp
    refine lv_iload_n hx hb dX7_isDish_4 rfl (lv_at hl 0 rfl) ?_
    refine lv_iconst (v := 4) hx hb dX7_isDish_5 (by decide) ?_
    refine lv_icmp_ge (tgt := 13) hx hb dX7_isDish_6 (by decide) (fun c_6 => ?_) (fun c_6 => ?_)
    · replace hsp := (if_pos c_6).symm.trans hsp
      refine lv_iconst (v := 0) hx hb dX7_isDish_13 (by decide) ?_
      exact W.zret (v := 0) hx hb hr (rfl) (fun t ht hW => ft_endi (post := fun z : Int32 => z = s_X7_isDish x1) hsp ht) (fun _ h => absurd h List.not_mem_nil) dX7_isDish_14
    · replace hsp := (if_neg c_6).symm.trans hsp
      refine lv_iconst (v := 1) hx hb dX7_isDish_9 (by decide) ?_
      refine lv_goto (tgt := 14) hx hb dX7_isDish_10 (by decide) ?_
      exact W.zret (v := 1) hx hb hr (rfl) (fun t ht hW => ft_endi (post := fun z : Int32 => z = s_X7_isDish x1) hsp ht) (fun _ h => absurd h List.not_mem_nil) dX7_isDish_14

def s_X7_isPitch  (x1 : Int32) : Int32 := if x1 < 0 then (0) else (if 5 ≤ x1 then (0) else (1))
set_option maxHeartbeats 4000000 in
set_option maxRecDepth 100000 in
theorem c_X7_isPitch (l : Launch)  (x1 : Int32) : Met l yX7_isPitch wsX7_isPitch ({ frames := 0, cells := 0, slots := 0, locals := 0 }) (ft_Pn [.int x1]) (vp_Si (fun z : Int32 => z = s_X7_isPitch x1)) 0 0 (fun _ => False) := by
  refine Met.ofW (cc := cX7_isPitch) (maxL := 1) (ret := (some .boolean)) (by decide) rfl ?_
  intro p e s m args below meth c s₁ B hml hv
  obtain ⟨hargs, -⟩ := hv
  subst hargs
  have hx := B.exec
  have hb := B.bytes
  have hr := B.returns
  have hts := atoms_spec (ws := wsX7_isPitch) B.pre
  have hown : s.vm.findClass RX7 = some m.cls := findClass_of_methodNamed B.named
  have hlocks := B.notSynchronized
  have hl := lv_entry ([.int x1]) (n := 1) (Nat.le_of_ble_eq_true rfl)
  rw [lg_entry_eq]
  generalize (lg_sl ([.int x1]) ++ List.replicate (1 - (lg_sl ([.int x1])).length) Slot.unset).toArray = ls at hl ⊢
  have hl : lv_has ls 1 [(0, .int (x1))] := hl
  have hsp := (s_X7_isPitch.eq_1  x1).symm
  refine lv_iload_n hx hb dX7_isPitch_0 rfl (lv_at hl 0 rfl) ?_
  refine lv_if_lt (tgt := 13) hx hb dX7_isPitch_1 (by decide) (fun c_1 => ?_) (fun c_1 => ?_)
  · replace hsp := (if_pos c_1).symm.trans hsp
    refine lv_iconst (v := 0) hx hb dX7_isPitch_13 (by decide) ?_
    exact W.zret (v := 0) hx hb hr (rfl) (fun t ht hW => ft_endi (post := fun z : Int32 => z = s_X7_isPitch x1) hsp ht) (fun _ h => absurd h List.not_mem_nil) dX7_isPitch_14
  · replace hsp := (if_neg c_1).symm.trans hsp
    refine lv_iload_n hx hb dX7_isPitch_4 rfl (lv_at hl 0 rfl) ?_
    refine lv_iconst (v := 5) hx hb dX7_isPitch_5 (by decide) ?_
    refine lv_icmp_ge (tgt := 13) hx hb dX7_isPitch_6 (by decide) (fun c_6 => ?_) (fun c_6 => ?_)
    · replace hsp := (if_pos c_6).symm.trans hsp
      refine lv_iconst (v := 0) hx hb dX7_isPitch_13 (by decide) ?_
      exact W.zret (v := 0) hx hb hr (rfl) (fun t ht hW => ft_endi (post := fun z : Int32 => z = s_X7_isPitch x1) hsp ht) (fun _ h => absurd h List.not_mem_nil) dX7_isPitch_14
    · replace hsp := (if_neg c_6).symm.trans hsp
      refine lv_iconst (v := 1) hx hb dX7_isPitch_9 (by decide) ?_
      refine lv_goto (tgt := 14) hx hb dX7_isPitch_10 (by decide) ?_
      exact W.zret (v := 1) hx hb hr (rfl) (fun t ht hW => ft_endi (post := fun z : Int32 => z = s_X7_isPitch x1) hsp ht) (fun _ h => absurd h List.not_mem_nil) dX7_isPitch_14

def s_X7_isWeekday  (x1 : Int32) : Int32 := if x1 < 0 then (0) else (if 7 ≤ x1 then (0) else (1))
set_option maxHeartbeats 4000000 in
set_option maxRecDepth 100000 in
theorem c_X7_isWeekday (l : Launch)  (x1 : Int32) : Met l yX7_isWeekday wsX7_isWeekday ({ frames := 0, cells := 0, slots := 0, locals := 0 }) (ft_Pn [.int x1]) (vp_Si (fun z : Int32 => z = s_X7_isWeekday x1)) 0 0 (fun _ => False) := by
  refine Met.ofW (cc := cX7_isWeekday) (maxL := 1) (ret := (some .boolean)) (by decide) rfl ?_
  intro p e s m args below meth c s₁ B hml hv
  obtain ⟨hargs, -⟩ := hv
  subst hargs
  have hx := B.exec
  have hb := B.bytes
  have hr := B.returns
  have hts := atoms_spec (ws := wsX7_isWeekday) B.pre
  have hown : s.vm.findClass RX7 = some m.cls := findClass_of_methodNamed B.named
  have hlocks := B.notSynchronized
  have hl := lv_entry ([.int x1]) (n := 1) (Nat.le_of_ble_eq_true rfl)
  rw [lg_entry_eq]
  generalize (lg_sl ([.int x1]) ++ List.replicate (1 - (lg_sl ([.int x1])).length) Slot.unset).toArray = ls at hl ⊢
  have hl : lv_has ls 1 [(0, .int (x1))] := hl
  have hsp := (s_X7_isWeekday.eq_1  x1).symm
  refine lv_iload_n hx hb dX7_isWeekday_0 rfl (lv_at hl 0 rfl) ?_
  refine lv_if_lt (tgt := 14) hx hb dX7_isWeekday_1 (by decide) (fun c_1 => ?_) (fun c_1 => ?_)
  · replace hsp := (if_pos c_1).symm.trans hsp
    refine lv_iconst (v := 0) hx hb dX7_isWeekday_14 (by decide) ?_
    exact W.zret (v := 0) hx hb hr (rfl) (fun t ht hW => ft_endi (post := fun z : Int32 => z = s_X7_isWeekday x1) hsp ht) (fun _ h => absurd h List.not_mem_nil) dX7_isWeekday_15
  · replace hsp := (if_neg c_1).symm.trans hsp
    refine lv_iload_n hx hb dX7_isWeekday_4 rfl (lv_at hl 0 rfl) ?_
    refine lv_bipush (v := 7) hx hb dX7_isWeekday_5 (by decide) ?_
    refine lv_icmp_ge (tgt := 14) hx hb dX7_isWeekday_7 (by decide) (fun c_7 => ?_) (fun c_7 => ?_)
    · replace hsp := (if_pos c_7).symm.trans hsp
      refine lv_iconst (v := 0) hx hb dX7_isWeekday_14 (by decide) ?_
      exact W.zret (v := 0) hx hb hr (rfl) (fun t ht hW => ft_endi (post := fun z : Int32 => z = s_X7_isWeekday x1) hsp ht) (fun _ h => absurd h List.not_mem_nil) dX7_isWeekday_15
    · replace hsp := (if_neg c_7).symm.trans hsp
      refine lv_iconst (v := 1) hx hb dX7_isWeekday_10 (by decide) ?_
      refine lv_goto (tgt := 15) hx hb dX7_isWeekday_11 (by decide) ?_
      exact W.zret (v := 1) hx hb hr (rfl) (fun t ht hW => ft_endi (post := fun z : Int32 => z = s_X7_isWeekday x1) hsp ht) (fun _ h => absurd h List.not_mem_nil) dX7_isWeekday_15

def s_X7_minutesFor  (x1 : Int32) : Int32 := x1 + 1
set_option maxHeartbeats 4000000 in
set_option maxRecDepth 100000 in
theorem c_X7_minutesFor (l : Launch)  (x1 : Int32) : Met l yX7_minutesFor wsX7_minutesFor ({ frames := 0, cells := 0, slots := 0, locals := 0 }) (ft_Pn [.int x1]) (vp_Si (fun z : Int32 => z = s_X7_minutesFor x1)) 0 0 (fun _ => False) := by
  refine Met.ofW (cc := cX7_minutesFor) (maxL := 1) (ret := (some .int)) (by decide) rfl ?_
  intro p e s m args below meth c s₁ B hml hv
  obtain ⟨hargs, -⟩ := hv
  subst hargs
  have hx := B.exec
  have hb := B.bytes
  have hr := B.returns
  have hts := atoms_spec (ws := wsX7_minutesFor) B.pre
  have hown : s.vm.findClass RX7 = some m.cls := findClass_of_methodNamed B.named
  have hlocks := B.notSynchronized
  have hl := lv_entry ([.int x1]) (n := 1) (Nat.le_of_ble_eq_true rfl)
  rw [lg_entry_eq]
  generalize (lg_sl ([.int x1]) ++ List.replicate (1 - (lg_sl ([.int x1])).length) Slot.unset).toArray = ls at hl ⊢
  have hl : lv_has ls 1 [(0, .int (x1))] := hl
  have hsp := (s_X7_minutesFor.eq_1  x1).symm
  refine lv_iload_n hx hb dX7_minutesFor_0 rfl (lv_at hl 0 rfl) ?_
  refine lv_iconst (v := 1) hx hb dX7_minutesFor_1 (by decide) ?_
  refine lv_iadd hx hb dX7_minutesFor_2 ?_
  exact W.iret (v := x1 + 1) hx hb hr (fun t ht hW => ft_endi (post := fun z : Int32 => z = s_X7_minutesFor x1) hsp ht) (fun _ h => absurd h List.not_mem_nil) dX7_minutesFor_3

theorem isDish_in {x : Int32} (h : ¬ s_X7_isDish x = 0) : vp_in x 4 := by
  unfold s_X7_isDish at h
  split at h
  · exact absurd rfl h
  · rename_i h1
    split at h
    · exact absurd rfl h
    · rename_i h2; exact in_of2' h1 h2

def s_X6_portionsOf (r : Nat → Int32) (b : Nat) (x1 : Int32) : Int32 := if (s_X7_isDish x1) = 0 then (0) else (ft_ar r (b + 4) 4 (tn x1))
set_option maxHeartbeats 4000000 in
set_option maxRecDepth 100000 in
theorem c_X6_portionsOf (l : Launch) (dC : va_G) (ad : Nat → Nat) (k : Nat → ClassId) (r : Nat → Int32) (b : Nat) (x1 : Int32) : Met l yX6_portionsOf wsX6_portionsOf ({ frames := 1, cells := 0, slots := 0, locals := 20 }) (ft_Pc dC k [.ref (ad 0), .int x1] (ft_WT ad k r b)) (vp_Si (fun z : Int32 => z = s_X6_portionsOf r b x1)) 0 0 (fun _ => False) := by
  refine Met.ofW (cc := cX6_portionsOf) (maxL := 2) (ret := (some .int)) (by decide) rfl ?_
  intro p e s m args below meth c s₁ B hml hv
  obtain ⟨hargs, hP, hK⟩ := hv
  subst hargs
  have hx := B.exec
  have hb := B.bytes
  have hr := B.returns
  have hts := atoms_spec (ws := wsX6_portionsOf) B.pre
  have hown : s.vm.findClass RX6 = some m.cls := findClass_of_methodNamed B.named
  have hlocks := B.notSynchronized
  have hl := lv_entry ([.ref (ad 0), .int x1]) (n := 2) (Nat.le_of_ble_eq_true rfl)
  rw [lg_entry_eq]
  generalize (lg_sl ([.ref (ad 0), .int x1]) ++ List.replicate (2 - (lg_sl ([.ref (ad 0), .int x1])).length) Slot.unset).toArray = ls at hl ⊢
  have hl : lv_has ls 2 [(0, .ref (ad 0)), (1, .int (x1))] := hl
  have hsp := (s_X6_portionsOf.eq_1 r b x1).symm
  refine lv_iload_n hx hb dX6_portionsOf_0 rfl (lv_at hl 1 rfl) ?_
  refine vp_callSi (va_Run.run (va_runSN (As := [.int (x1)]) (rest := []) ⟨hx, hb, hml, hown, hts⟩ (c_X7_isDish l x1) ⟨va_cnB 1 hts ggX6_portionsOf_X7_isDish rfl rfl rfl (ft_nm hK.2 7 rfl) (hts (.initialized RX7) (by decide +kernel)) (by decide +kernel) ⟨Nat.le_of_ble_eq_true rfl, Nat.le_of_ble_eq_true rfl⟩, hts (.static yX7_isDish) (by decide +kernel), trivial⟩ ft_preSn rfl rfl hl.1 rfl (lv_room (Nat.le_of_ble_eq_true rfl)) dX6_portionsOf_1 ⟨Nat.le_of_ble_eq_true rfl, Nat.le_of_ble_eq_true rfl⟩)) (fun z hz => ?_)
  subst hz
  refine lv_if_eq (tgt := 16) hx hb dX6_portionsOf_4 (by decide) (fun c_4 => ?_) (fun c_4 => ?_)
  · replace hsp := (if_pos c_4).symm.trans hsp
    refine lv_iconst (v := 0) hx hb dX6_portionsOf_16 (by decide) ?_
    exact W.iret (v := 0) hx hb hr (fun t ht hW => ft_endi (post := fun z : Int32 => z = s_X6_portionsOf r b x1) hsp ht) (fun _ h => absurd h List.not_mem_nil) dX6_portionsOf_17
  · replace hsp := (if_neg c_4).symm.trans hsp
    refine lv_aload_n hx hb dX6_portionsOf_7 rfl (lv_at hl 0 rfl) ?_
    refine va_get (D := dC) (ci := 8) (v := .ref (ad 1)) (C := RX6) (T := TX6) (N := 6) hx hb hts (by decide +kernel) hown hK.1 hP 0 (ft_get' (by decide) rfl) rfl 0 (by decide) (hts (.fieldLink RX6 9 "FoodTruckRota$Truck" "portions" "[I") (by decide +kernel)) (fun _ h9 => h9) rfl dX6_portionsOf_8 ?_
    refine lv_iload_n hx hb dX6_portionsOf_11 rfl (lv_at hl 1 rfl) ?_
    have h_12 : vp_in x1 4 := by exact isDish_in c_4
    refine va_iald hx hb hK.1 hP 1 0 (ft_get' (by decide) rfl) rfl h_12 dX6_portionsOf_12 ?_
    refine lv_goto (tgt := 17) hx hb dX6_portionsOf_13 (by decide) ?_
    exact W.iret (v := ft_ar r (b + 4) 4 (tn x1)) hx hb hr (fun t ht hW => ft_endi (post := fun z : Int32 => z = s_X6_portionsOf r b x1) hsp ht) (fun _ h => absurd h List.not_mem_nil) dX6_portionsOf_17

def s_X6_wishAt (r : Nat → Int32) (b : Nat) (x1 : Int32) : Int32 := if x1 < 0 then ((-1)) else (if (r (b + 2)) ≤ x1 then ((-1)) else (if x1 < 9 then (ft_ar r (b + 8) 9 (tn x1)) else ((-1))))
set_option maxHeartbeats 4000000 in
set_option maxRecDepth 100000 in
theorem c_X6_wishAt (l : Launch) (dC : va_G) (ad : Nat → Nat) (k : Nat → ClassId) (r : Nat → Int32) (b : Nat) (x1 : Int32) : Met l yX6_wishAt wsX6_wishAt ({ frames := 0, cells := 0, slots := 0, locals := 0 }) (ft_Pc dC k [.ref (ad 0), .int x1] (ft_WT ad k r b)) (vp_Si (fun z : Int32 => z = s_X6_wishAt r b x1)) 0 0 (fun _ => False) := by
  refine Met.ofW (cc := cX6_wishAt) (maxL := 2) (ret := (some .int)) (by decide) rfl ?_
  intro p e s m args below meth c s₁ B hml hv
  obtain ⟨hargs, hP, hK⟩ := hv
  subst hargs
  have hx := B.exec
  have hb := B.bytes
  have hr := B.returns
  have hts := atoms_spec (ws := wsX6_wishAt) B.pre
  have hown : s.vm.findClass RX6 = some m.cls := findClass_of_methodNamed B.named
  have hlocks := B.notSynchronized
  have hl := lv_entry ([.ref (ad 0), .int x1]) (n := 2) (Nat.le_of_ble_eq_true rfl)
  rw [lg_entry_eq]
  generalize (lg_sl ([.ref (ad 0), .int x1]) ++ List.replicate (2 - (lg_sl ([.ref (ad 0), .int x1])).length) Slot.unset).toArray = ls at hl ⊢
  have hl : lv_has ls 2 [(0, .ref (ad 0)), (1, .int (x1))] := hl
  have hsp := (s_X6_wishAt.eq_1 r b x1).symm
  refine lv_iload_n hx hb dX6_wishAt_0 rfl (lv_at hl 1 rfl) ?_
  refine lv_if_lt (tgt := 18) hx hb dX6_wishAt_1 (by decide) (fun c_1 => ?_) (fun c_1 => ?_)
  · replace hsp := (if_pos c_1).symm.trans hsp
    refine lv_iconst (v := (-1)) hx hb dX6_wishAt_18 (by decide) ?_
    exact W.iret (v := (-1)) hx hb hr (fun t ht hW => ft_endi (post := fun z : Int32 => z = s_X6_wishAt r b x1) hsp ht) (fun _ h => absurd h List.not_mem_nil) dX6_wishAt_19
  · replace hsp := (if_neg c_1).symm.trans hsp
    refine lv_iload_n hx hb dX6_wishAt_4 rfl (lv_at hl 1 rfl) ?_
    refine lv_aload_n hx hb dX6_wishAt_5 rfl (lv_at hl 0 rfl) ?_
    refine va_get (D := dC) (ci := 8) (v := .int (r (b + 2))) (C := RX6) (T := TX6) (N := 6) hx hb hts (by decide +kernel) hown hK.1 hP 0 (ft_get' (by decide) rfl) rfl 2 (by decide) (hts (.fieldLink RX6 24 "FoodTruckRota$Truck" "queued" "I") (by decide +kernel)) (fun _ h9 => h9) rfl dX6_wishAt_6 ?_
    refine lv_icmp_ge (tgt := 18) hx hb dX6_wishAt_9 (by decide) (fun c_9 => ?_) (fun c_9 => ?_)
    · replace hsp := (if_pos c_9).symm.trans hsp
      refine lv_iconst (v := (-1)) hx hb dX6_wishAt_18 (by decide) ?_
      exact W.iret (v := (-1)) hx hb hr (fun t ht hW => ft_endi (post := fun z : Int32 => z = s_X6_wishAt r b x1) hsp ht) (fun _ h => absurd h List.not_mem_nil) dX6_wishAt_19
    · replace hsp := (if_neg c_9).symm.trans hsp
      refine lv_iload_n hx hb dX6_wishAt_12 rfl (lv_at hl 1 rfl) ?_
      refine lv_bipush (v := 9) hx hb dX6_wishAt_13 (by decide) ?_
      refine lv_icmp_lt (tgt := 20) hx hb dX6_wishAt_15 (by decide) (fun c_15 => ?_) (fun c_15 => ?_)
      · replace hsp := (if_pos c_15).symm.trans hsp
        refine lv_aload_n hx hb dX6_wishAt_20 rfl (lv_at hl 0 rfl) ?_
        refine va_get (D := dC) (ci := 8) (v := .ref (ad 2)) (C := RX6) (T := TX6) (N := 6) hx hb hts (by decide +kernel) hown hK.1 hP 0 (ft_get' (by decide) rfl) rfl 1 (by decide) (hts (.fieldLink RX6 15 "FoodTruckRota$Truck" "wishes" "[I") (by decide +kernel)) (fun _ h9 => h9) rfl dX6_wishAt_21 ?_
        refine lv_iload_n hx hb dX6_wishAt_24 rfl (lv_at hl 1 rfl) ?_
        have h_25 : vp_in x1 9 := by exact in_of3 c_1 c_9 c_15
        refine va_iald hx hb hK.1 hP 2 0 (ft_get' (by decide) rfl) rfl h_25 dX6_wishAt_25 ?_
        exact W.iret (v := ft_ar r (b + 8) 9 (tn x1)) hx hb hr (fun t ht hW => ft_endi (post := fun z : Int32 => z = s_X6_wishAt r b x1) hsp ht) (fun _ h => absurd h List.not_mem_nil) dX6_wishAt_26
      · replace hsp := (if_neg c_15).symm.trans hsp
        refine lv_iconst (v := (-1)) hx hb dX6_wishAt_18 (by decide) ?_
        exact W.iret (v := (-1)) hx hb hr (fun t ht hW => ft_endi (post := fun z : Int32 => z = s_X6_wishAt r b x1) hsp ht) (fun _ h => absurd h List.not_mem_nil) dX6_wishAt_19

def s_X6_joinQueue (r : Nat → Int32) (b : Nat) (x1 : Int32) : Int32 × (Nat → Int32) := if (r (b + 2)) < 0 then ((0, r)) else (if (r (b + 2)) < 9 then ((1, va_up (va_up r (b + 8 + tn (r (b + 2))) x1) (b + 2) (((va_up r (b + 8 + tn (r (b + 2))) x1) (b + 2)) + 1))) else ((0, r)))
set_option maxHeartbeats 4000000 in
set_option maxRecDepth 100000 in
theorem c_X6_joinQueue (l : Launch) (dC : va_G) (ad : Nat → Nat) (k : Nat → ClassId) (r : Nat → Int32) (b : Nat) (x1 : Int32) : Met l yX6_joinQueue wsX6_joinQueue ({ frames := 0, cells := 0, slots := 0, locals := 0 }) (ft_Pd dC k [.ref (ad 0), .int x1] (ft_WT ad k r b)) (va_Qi (fun (z : Int32) (u : Nat → Int32) => (z, u) = s_X6_joinQueue r b x1) (fun (u : Nat → Int32) (t : State) => va_P dC vwCl (ft_WT ad k u b) t.heap) (ft_A 3 ad)) 0 0 (ft_A 3 ad) := by
  refine Met.ofW (cc := cX6_joinQueue) (maxL := 2) (ret := (some .boolean)) (by decide) rfl ?_
  intro p e s m args below meth c s₁ B hml hv
  obtain ⟨hargs, hP, hK, hD0⟩ := hv
  subst hargs
  have hx := B.exec
  have hb := B.bytes
  have hr := B.returns
  have hts := atoms_spec (ws := wsX6_joinQueue) B.pre
  have hown : s.vm.findClass RX6 = some m.cls := findClass_of_methodNamed B.named
  have hlocks := B.notSynchronized
  have hD := ft_D_self hD0
  have hS : va_S (ft_A 3 ad) s.heap s.heap [] := va_S.rf
  have hl := lv_entry ([.ref (ad 0), .int x1]) (n := 2) (Nat.le_of_ble_eq_true rfl)
  rw [lg_entry_eq]
  generalize (lg_sl ([.ref (ad 0), .int x1]) ++ List.replicate (2 - (lg_sl ([.ref (ad 0), .int x1])).length) Slot.unset).toArray = ls at hl ⊢
  have hl : lv_has ls 2 [(0, .ref (ad 0)), (1, .int (x1))] := hl
  have hsp := (s_X6_joinQueue.eq_1 r b x1).symm
  refine lv_aload_n hx hb dX6_joinQueue_0 rfl (lv_at hl 0 rfl) ?_
  refine va_get (D := dC) (ci := 8) (v := .int (r (b + 2))) (C := RX6) (T := TX6) (N := 6) hx hb hts (by decide +kernel) hown hK.1 hP 0 (ft_get' (by decide) rfl) rfl 2 (by decide) (hts (.fieldLink RX6 24 "FoodTruckRota$Truck" "queued" "I") (by decide +kernel)) (fun _ h9 => h9) rfl dX6_joinQueue_1 ?_
  refine lv_if_lt (tgt := 16) hx hb dX6_joinQueue_4 (by decide) (fun c_4 => ?_) (fun c_4 => ?_)
  · replace hsp := (if_pos c_4).symm.trans hsp
    refine lv_iconst (v := 0) hx hb dX6_joinQueue_16 (by decide) ?_
    exact W.zret (v := 0) hx hb hr (rfl) (fun t ht hW => ⟨⟨0, r, rfl, hsp, ft_heap ht hP⟩, hS.F ht⟩) hS.2.2 dX6_joinQueue_17
  · replace hsp := (if_neg c_4).symm.trans hsp
    refine lv_aload_n hx hb dX6_joinQueue_7 rfl (lv_at hl 0 rfl) ?_
    refine va_get (D := dC) (ci := 8) (v := .int (r (b + 2))) (C := RX6) (T := TX6) (N := 6) hx hb hts (by decide +kernel) hown hK.1 hP 0 (ft_get' (by decide) rfl) rfl 2 (by decide) (hts (.fieldLink RX6 24 "FoodTruckRota$Truck" "queued" "I") (by decide +kernel)) (fun _ h9 => h9) rfl dX6_joinQueue_8 ?_
    refine lv_bipush (v := 9) hx hb dX6_joinQueue_11 (by decide) ?_
    refine lv_icmp_lt (tgt := 18) hx hb dX6_joinQueue_13 (by decide) (fun c_13 => ?_) (fun c_13 => ?_)
    · replace hsp := (if_pos c_13).symm.trans hsp
      refine lv_aload_n hx hb dX6_joinQueue_18 rfl (lv_at hl 0 rfl) ?_
      refine va_get (D := dC) (ci := 8) (v := .ref (ad 2)) (C := RX6) (T := TX6) (N := 6) hx hb hts (by decide +kernel) hown hK.1 hP 0 (ft_get' (by decide) rfl) rfl 1 (by decide) (hts (.fieldLink RX6 15 "FoodTruckRota$Truck" "wishes" "[I") (by decide +kernel)) (fun _ h9 => h9) rfl dX6_joinQueue_19 ?_
      refine lv_aload_n hx hb dX6_joinQueue_22 rfl (lv_at hl 0 rfl) ?_
      refine va_get (D := dC) (ci := 8) (v := .int (r (b + 2))) (C := RX6) (T := TX6) (N := 6) hx hb hts (by decide +kernel) hown hK.1 hP 0 (ft_get' (by decide) rfl) rfl 2 (by decide) (hts (.fieldLink RX6 24 "FoodTruckRota$Truck" "queued" "I") (by decide +kernel)) (fun _ h9 => h9) rfl dX6_joinQueue_23 ?_
      refine lv_iload_n hx hb dX6_joinQueue_26 rfl (lv_at hl 1 rfl) ?_
      have h_27 : vp_in (r (b + 2)) 9 := by exact in_of2 c_4 c_13
      refine va_iast hx hb hK.1 hP hD hS 2 0 (ft_get' (by decide) rfl) rfl h_27 dX6_joinQueue_27 (fun H locs hP hD hS => ?_)
      have hP := ft_cast hP (ft_T_a2 (ft_tn h_27))
      have hD := ft_castD hD (ft_T_a2 (ft_tn h_27))
      have hP : va_P dC vwCl (ft_WT ad k (va_up r (b + 8 + tn (r (b + 2))) x1) b) H := hP
      have hD : va_D (ft_A 3 ad) (ft_WT ad k (va_up r (b + 8 + tn (r (b + 2))) x1) b) := hD
      refine lv_aload_n hx hb dX6_joinQueue_28 rfl (lv_at hl 0 rfl) ?_
      refine lv_dup hx hb dX6_joinQueue_29 rfl ?_
      refine va_get (D := dC) (ci := 8) (v := .int ((va_up r (b + 8 + tn (r (b + 2))) x1) (b + 2))) (C := RX6) (T := TX6) (N := 6) hx hb hts (by decide +kernel) hown hK.1 hP 0 (ft_get' (by decide) rfl) rfl 2 (by decide) (hts (.fieldLink RX6 24 "FoodTruckRota$Truck" "queued" "I") (by decide +kernel)) (fun _ h9 => h9) rfl dX6_joinQueue_30 ?_
      refine lv_iconst (v := 1) hx hb dX6_joinQueue_33 (by decide) ?_
      refine lv_iadd hx hb dX6_joinQueue_34 ?_
      refine va_put (D := dC) (ci := 8) (v := .int (((va_up r (b + 8 + tn (r (b + 2))) x1) (b + 2)) + 1)) (ty := .int) (C := RX6) (T := TX6) (N := 6) hx hb hts (by decide +kernel) tyX6 tyX6_ok nmX6 hown hK.1 hP hD hS 0 (ft_get' (by decide) rfl) rfl 2 (by decide) (hts (.fieldLink RX6 24 "FoodTruckRota$Truck" "queued" "I") (by decide +kernel)) (fun _ h9 => h9) rfl (by decide +kernel) rfl rfl (Nat.le_of_ble_eq_true rfl) dX6_joinQueue_35 (fun H locs hP hD hS => ?_)
      have hP := ft_cast hP ft_T_p2
      have hD := ft_castD hD ft_T_p2
      have hP : va_P dC vwCl (ft_WT ad k (va_up (va_up r (b + 8 + tn (r (b + 2))) x1) (b + 2) (((va_up r (b + 8 + tn (r (b + 2))) x1) (b + 2)) + 1)) b) H := hP
      have hD : va_D (ft_A 3 ad) (ft_WT ad k (va_up (va_up r (b + 8 + tn (r (b + 2))) x1) (b + 2) (((va_up r (b + 8 + tn (r (b + 2))) x1) (b + 2)) + 1)) b) := hD
      refine lv_iconst (v := 1) hx hb dX6_joinQueue_38 (by decide) ?_
      exact W.zret (v := 1) hx hb hr (rfl) (fun t ht hW => ⟨⟨1, (va_up (va_up r (b + 8 + tn (r (b + 2))) x1) (b + 2) (((va_up r (b + 8 + tn (r (b + 2))) x1) (b + 2)) + 1)), rfl, hsp, ft_heap ht hP⟩, hS.F ht⟩) hS.2.2 dX6_joinQueue_39
    · replace hsp := (if_neg c_13).symm.trans hsp
      refine lv_iconst (v := 0) hx hb dX6_joinQueue_16 (by decide) ?_
      exact W.zret (v := 0) hx hb hr (rfl) (fun t ht hW => ⟨⟨0, r, rfl, hsp, ft_heap ht hP⟩, hS.F ht⟩) hS.2.2 dX6_joinQueue_17

def s_X6_sendAllAway (r : Nat → Int32) (b : Nat)  : Int32 × (Nat → Int32) := (r (b + 2), va_up (va_up r (b + 2) 0) (b + 1) 0)
set_option maxHeartbeats 4000000 in
set_option maxRecDepth 100000 in
theorem c_X6_sendAllAway (l : Launch) (dC : va_G) (ad : Nat → Nat) (k : Nat → ClassId) (r : Nat → Int32) (b : Nat)  : Met l yX6_sendAllAway wsX6_sendAllAway ({ frames := 0, cells := 0, slots := 0, locals := 0 }) (ft_Pd dC k [.ref (ad 0)] (ft_WT ad k r b)) (va_Qi (fun (z : Int32) (u : Nat → Int32) => (z, u) = s_X6_sendAllAway r b) (fun (u : Nat → Int32) (t : State) => va_P dC vwCl (ft_WT ad k u b) t.heap) (ft_A 3 ad)) 0 0 (ft_A 3 ad) := by
  refine Met.ofW (cc := cX6_sendAllAway) (maxL := 2) (ret := (some .int)) (by decide) rfl ?_
  intro p e s m args below meth c s₁ B hml hv
  obtain ⟨hargs, hP, hK, hD0⟩ := hv
  subst hargs
  have hx := B.exec
  have hb := B.bytes
  have hr := B.returns
  have hts := atoms_spec (ws := wsX6_sendAllAway) B.pre
  have hown : s.vm.findClass RX6 = some m.cls := findClass_of_methodNamed B.named
  have hlocks := B.notSynchronized
  have hD := ft_D_self hD0
  have hS : va_S (ft_A 3 ad) s.heap s.heap [] := va_S.rf
  have hl := lv_entry ([.ref (ad 0)]) (n := 2) (Nat.le_of_ble_eq_true rfl)
  rw [lg_entry_eq]
  generalize (lg_sl ([.ref (ad 0)]) ++ List.replicate (2 - (lg_sl ([.ref (ad 0)])).length) Slot.unset).toArray = ls at hl ⊢
  have hl : lv_has ls 2 [(0, .ref (ad 0))] := hl
  have hsp := (s_X6_sendAllAway.eq_1 r b ).symm
  refine lv_aload_n hx hb dX6_sendAllAway_0 rfl (lv_at hl 0 rfl) ?_
  refine va_get (D := dC) (ci := 8) (v := .int (r (b + 2))) (C := RX6) (T := TX6) (N := 6) hx hb hts (by decide +kernel) hown hK.1 hP 0 (ft_get' (by decide) rfl) rfl 2 (by decide) (hts (.fieldLink RX6 24 "FoodTruckRota$Truck" "queued" "I") (by decide +kernel)) (fun _ h9 => h9) rfl dX6_sendAllAway_1 ?_
  refine lv_istore_n (lv' := [(1, .int (r (b + 2))), (0, .ref (ad 0))]) hx hb dX6_sendAllAway_4 rfl hl (by decide) rfl (fun ls hl => ?_)
  refine lv_aload_n hx hb dX6_sendAllAway_5 rfl (lv_at hl 1 rfl) ?_
  refine lv_iconst (v := 0) hx hb dX6_sendAllAway_6 (by decide) ?_
  refine va_put (D := dC) (ci := 8) (v := .int (0)) (ty := .int) (C := RX6) (T := TX6) (N := 6) hx hb hts (by decide +kernel) tyX6 tyX6_ok nmX6 hown hK.1 hP hD hS 0 (ft_get' (by decide) rfl) rfl 2 (by decide) (hts (.fieldLink RX6 24 "FoodTruckRota$Truck" "queued" "I") (by decide +kernel)) (fun _ h9 => h9) rfl (by decide +kernel) rfl rfl (Nat.le_of_ble_eq_true rfl) dX6_sendAllAway_7 (fun H locs hP hD hS => ?_)
  have hP := ft_cast hP ft_T_p2
  have hD := ft_castD hD ft_T_p2
  have hP : va_P dC vwCl (ft_WT ad k (va_up r (b + 2) 0) b) H := hP
  have hD : va_D (ft_A 3 ad) (ft_WT ad k (va_up r (b + 2) 0) b) := hD
  refine lv_aload_n hx hb dX6_sendAllAway_10 rfl (lv_at hl 1 rfl) ?_
  refine lv_iconst (v := 0) hx hb dX6_sendAllAway_11 (by decide) ?_
  refine va_put (D := dC) (ci := 8) (v := .int (0)) (ty := .int) (C := RX6) (T := TX6) (N := 6) hx hb hts (by decide +kernel) tyX6 tyX6_ok nmX6 hown hK.1 hP hD hS 0 (ft_get' (by decide) rfl) rfl 3 (by decide) (hts (.fieldLink RX6 28 "FoodTruckRota$Truck" "minutesToGo" "I") (by decide +kernel)) (fun _ h9 => h9) rfl (by decide +kernel) rfl rfl (Nat.le_of_ble_eq_true rfl) dX6_sendAllAway_12 (fun H locs hP hD hS => ?_)
  have hP := ft_cast hP ft_T_p1
  have hD := ft_castD hD ft_T_p1
  have hP : va_P dC vwCl (ft_WT ad k (va_up (va_up r (b + 2) 0) (b + 1) 0) b) H := hP
  have hD : va_D (ft_A 3 ad) (ft_WT ad k (va_up (va_up r (b + 2) 0) (b + 1) 0) b) := hD
  refine lv_iload_n hx hb dX6_sendAllAway_15 rfl (lv_at hl 0 rfl) ?_
  exact W.iret (v := r (b + 2)) hx hb hr (fun t ht hW => ⟨⟨r (b + 2), (va_up (va_up r (b + 2) 0) (b + 1) 0), rfl, hsp, ft_heap ht hP⟩, hS.F ht⟩) hS.2.2 dX6_sendAllAway_16

def s_X6_sumOfPortions_L4 (r : Nat → Int32) (b : Nat)  (K : Int32 → Int32 → Int32) : Nat → Int32 → Int32 → Int32
  | 0, y1_4, y2_4 => K y1_4 y2_4
  | n + 1, y1_4, y2_4 => if 4 ≤ y2_4 then (K y1_4 y2_4) else (s_X6_sumOfPortions_L4 r b K n (y1_4 + (ft_ar r (b + 4) 4 (tn y2_4))) (y2_4 + 1))
def s_X6_sumOfPortions (r : Nat → Int32) (b : Nat)  : Int32 := s_X6_sumOfPortions_L4 r b (fun y1_4 y2_4 => y1_4) (tn 4 + 1) 0 0
set_option maxHeartbeats 4000000 in
set_option maxRecDepth 100000 in
theorem c_X6_sumOfPortions (l : Launch) (dC : va_G) (ad : Nat → Nat) (k : Nat → ClassId) (r : Nat → Int32) (b : Nat)  : Met l yX6_sumOfPortions wsX6_sumOfPortions ({ frames := 0, cells := 0, slots := 0, locals := 0 }) (ft_Pc dC k [.ref (ad 0)] (ft_WT ad k r b)) (vp_Si (fun z : Int32 => z = s_X6_sumOfPortions r b)) 0 0 (fun _ => False) := by
  refine Met.ofW (cc := cX6_sumOfPortions) (maxL := 3) (ret := (some .int)) (by decide) rfl ?_
  intro p e s m args below meth c s₁ B hml hv
  obtain ⟨hargs, hP, hK⟩ := hv
  subst hargs
  have hx := B.exec
  have hb := B.bytes
  have hr := B.returns
  have hts := atoms_spec (ws := wsX6_sumOfPortions) B.pre
  have hown : s.vm.findClass RX6 = some m.cls := findClass_of_methodNamed B.named
  have hlocks := B.notSynchronized
  have hl := lv_entry ([.ref (ad 0)]) (n := 3) (Nat.le_of_ble_eq_true rfl)
  rw [lg_entry_eq]
  generalize (lg_sl ([.ref (ad 0)]) ++ List.replicate (3 - (lg_sl ([.ref (ad 0)])).length) Slot.unset).toArray = ls at hl ⊢
  have hl : lv_has ls 3 [(0, .ref (ad 0))] := hl
  have hsp := (s_X6_sumOfPortions.eq_1 r b ).symm
  refine lv_iconst (v := 0) hx hb dX6_sumOfPortions_0 (by decide) ?_
  refine lv_istore_n (lv' := [(1, .int (0)), (0, .ref (ad 0))]) hx hb dX6_sumOfPortions_1 rfl hl (by decide) rfl (fun ls hl => ?_)
  refine lv_iconst (v := 0) hx hb dX6_sumOfPortions_2 (by decide) ?_
  refine lv_istore_n (lv' := [(2, .int (0)), (1, .int (0)), (0, .ref (ad 0))]) hx hb dX6_sumOfPortions_3 rfl hl (by decide) rfl (fun ls hl => ?_)
  have loop_4 : ∀ (K : Int32 → Int32 → Int32) (hKx : ∀ (y1_4 : Int32) (y2_4 : Int32) (i_4 : Nat) (hi_4 : y2_4 = nI i_4) (hm_4 : i_4 ≤ tn 4) (ls : Array Slot) (hl : lv_has ls 3 [(2, .int (y2_4)), (1, .int (y1_4)), (0, .ref (ad 0))]) (hsp : K y1_4 y2_4 = s_X6_sumOfPortions r b), W p l e (headSpec wsX6_sumOfPortions ({ frames := 0, cells := 0, slots := 0, locals := 0 })).room s m ([.ref (ad 0)] : List Value).toArray below meth c s.heap [] 0 0 (MQ below (vp_Si (fun z : Int32 => z = s_X6_sumOfPortions r b)) ([.ref (ad 0)] : List Value).toArray s 0 0 (fun _ => False)) (F0 m 24 ls [])) (n_4 : Nat), ∀ (y1_4 : Int32) (y2_4 : Int32) (i_4 : Nat) (hi_4 : y2_4 = nI i_4) (hm_4 : i_4 ≤ tn 4) (hn_4 : tn 4 < n_4 + i_4) (ls : Array Slot) (hl : lv_has ls 3 [(2, .int (y2_4)), (1, .int (y1_4)), (0, .ref (ad 0))]) (hsp : s_X6_sumOfPortions_L4 r b K n_4 y1_4 y2_4 = s_X6_sumOfPortions r b), W p l e (headSpec wsX6_sumOfPortions ({ frames := 0, cells := 0, slots := 0, locals := 0 })).room s m ([.ref (ad 0)] : List Value).toArray below meth c s.heap [] 0 0 (MQ below (vp_Si (fun z : Int32 => z = s_X6_sumOfPortions r b)) ([.ref (ad 0)] : List Value).toArray s 0 0 (fun _ => False)) (F0 m 4 ls []) := by
    intro K hKx n_4
    induction n_4 with
    | zero => intro y1_4 y2_4 i_4 hi_4 hm_4 hn_4; exact absurd hn_4 (by omega)
    | succ n ih_4 =>
      intro y1_4 y2_4 i_4 hi_4 hm_4 hn_4 ls hl hsp
      rw [s_X6_sumOfPortions_L4] at hsp
      refine lv_iload_n hx hb dX6_sumOfPortions_4 rfl (lv_at hl 0 rfl) ?_
      refine lv_iconst (v := 4) hx hb dX6_sumOfPortions_5 (by decide) ?_
      refine lv_icmp_ge (tgt := 24) hx hb dX6_sumOfPortions_6 (by decide) (fun c_6 => ?_) (fun c_6 => ?_)
      · replace hsp := (if_pos c_6).symm.trans hsp
        exact hKx y1_4 y2_4 i_4 hi_4 hm_4 ls (lv_sub hl [0, 1, 2] rfl) hsp
      · replace hsp := (if_neg c_6).symm.trans hsp
        have hlt_4 := ft_step hi_4 hm_4 c_6
        refine lv_iload_n hx hb dX6_sumOfPortions_9 rfl (lv_at hl 1 rfl) ?_
        refine lv_aload_n hx hb dX6_sumOfPortions_10 rfl (lv_at hl 2 rfl) ?_
        refine va_get (D := dC) (ci := 8) (v := .ref (ad 1)) (C := RX6) (T := TX6) (N := 6) hx hb hts (by decide +kernel) hown hK.1 hP 0 (ft_get' (by decide) rfl) rfl 0 (by decide) (hts (.fieldLink RX6 9 "FoodTruckRota$Truck" "portions" "[I") (by decide +kernel)) (fun _ h9 => h9) rfl dX6_sumOfPortions_11 ?_
        refine lv_iload_n hx hb dX6_sumOfPortions_14 rfl (lv_at hl 0 rfl) ?_
        have h_15 : vp_in y2_4 4 := by exact ft_vin hi_4 hlt_4
        refine va_iald hx hb hK.1 hP 1 0 (ft_get' (by decide) rfl) rfl h_15 dX6_sumOfPortions_15 ?_
        refine lv_iadd hx hb dX6_sumOfPortions_16 ?_
        refine lv_istore_n (lv' := [(1, .int (y1_4 + (ft_ar r (b + 4) 4 (tn y2_4)))), (2, .int (y2_4)), (0, .ref (ad 0))]) hx hb dX6_sumOfPortions_17 rfl hl (by decide) rfl (fun ls hl => ?_)
        refine lv_iinc (v := y2_4 + 1) (lv' := [(2, .int (y2_4 + 1)), (1, .int (y1_4 + (ft_ar r (b + 4) 4 (tn y2_4)))), (0, .ref (ad 0))]) hx hb dX6_sumOfPortions_18 hl (k := 1) rfl rfl (by decide) rfl (fun ls hl => ?_)
        refine lv_goto (tgt := 4) hx hb dX6_sumOfPortions_21 (by decide) ?_
        exact ih_4 (y1_4 + (ft_ar r (b + 4) 4 (tn y2_4))) (y2_4 + 1) (i_4 + 1) (by rw [hi_4, nI_1]) hlt_4 (by omega) ls (lv_sub hl [0, 1, 2] rfl) hsp
  refine loop_4 _ (fun y1_4 y2_4 i_4 hi_4 hm_4 ls hl hsp => ?_) (tn 4 + 1) 0 0 0 rfl (by omega) (by omega) ls (lv_sub hl [0, 1, 2] rfl) hsp
  refine lv_iload_n hx hb dX6_sumOfPortions_24 rfl (lv_at hl 1 rfl) ?_
  exact W.iret (v := y1_4) hx hb hr (fun t ht hW => ft_endi (post := fun z : Int32 => z = s_X6_sumOfPortions r b) hsp ht) (fun _ h => absurd h List.not_mem_nil) dX6_sumOfPortions_25

def s_X6_dropFirst_L2 (r : Nat → Int32) (b : Nat)  (K : Int32 → (Nat → Int32) → (Nat → Int32)) : Nat → Int32 → (Nat → Int32) → (Nat → Int32)
  | 0, y1_2, r_2 => K y1_2 r_2
  | n + 1, y1_2, r_2 => if 9 ≤ y1_2 then (K y1_2 r_2) else (s_X6_dropFirst_L2 r b K n (y1_2 + 1) (va_up r_2 (b + 8 + tn (y1_2 - 1)) (ft_ar r_2 (b + 8) 9 (tn y1_2))))
def s_X6_dropFirst (r : Nat → Int32) (b : Nat)  : (Nat → Int32) := s_X6_dropFirst_L2 r b (fun y1_2 r_2 => va_up r_2 (b + 2) ((r_2 (b + 2)) - 1)) (tn 9 + 1) 1 r
set_option maxHeartbeats 4000000 in
set_option maxRecDepth 100000 in
theorem c_X6_dropFirst (l : Launch) (dC : va_G) (ad : Nat → Nat) (k : Nat → ClassId) (r : Nat → Int32) (b : Nat)  : Met l yX6_dropFirst wsX6_dropFirst ({ frames := 0, cells := 0, slots := 0, locals := 0 }) (ft_Pd dC k [.ref (ad 0)] (ft_WT ad k r b)) (va_Qv (fun u : Nat → Int32 => u = s_X6_dropFirst r b) (fun (u : Nat → Int32) (t : State) => va_P dC vwCl (ft_WT ad k u b) t.heap) (ft_A 3 ad)) 0 0 (ft_A 3 ad) := by
  refine Met.ofW (cc := cX6_dropFirst) (maxL := 2) (ret := none) (by decide) rfl ?_
  intro p e s m args below meth c s₁ B hml hv
  obtain ⟨hargs, hP, hK, hD0⟩ := hv
  subst hargs
  have hx := B.exec
  have hb := B.bytes
  have hr := B.returns
  have hts := atoms_spec (ws := wsX6_dropFirst) B.pre
  have hown : s.vm.findClass RX6 = some m.cls := findClass_of_methodNamed B.named
  have hlocks := B.notSynchronized
  have hD := ft_D_self hD0
  have hS : va_S (ft_A 3 ad) s.heap s.heap [] := va_S.rf
  have hl := lv_entry ([.ref (ad 0)]) (n := 2) (Nat.le_of_ble_eq_true rfl)
  rw [lg_entry_eq]
  generalize (lg_sl ([.ref (ad 0)]) ++ List.replicate (2 - (lg_sl ([.ref (ad 0)])).length) Slot.unset).toArray = ls at hl ⊢
  have hl : lv_has ls 2 [(0, .ref (ad 0))] := hl
  have hsp := (s_X6_dropFirst.eq_1 r b ).symm
  refine lv_iconst (v := 1) hx hb dX6_dropFirst_0 (by decide) ?_
  refine lv_istore_n (lv' := [(1, .int (1)), (0, .ref (ad 0))]) hx hb dX6_dropFirst_1 rfl hl (by decide) rfl (fun ls hl => ?_)
  have loop_2 : ∀ (K : Int32 → (Nat → Int32) → (Nat → Int32)) (hKx : ∀ (y1_2 : Int32) (i_2 : Nat) (hi_2 : y1_2 = nI i_2) (hm_2 : i_2 ≤ tn 9) (r_2 : Nat → Int32) (H : Heap) (locs : List Loc) (hP : va_P dC vwCl (ft_WT ad k r_2 b) H) (hD : va_D (ft_A 3 ad) (ft_WT ad k r_2 b)) (hS : va_S (ft_A 3 ad) s.heap H locs) (h1_2 : 1 ≤ i_2) (ls : Array Slot) (hl : lv_has ls 2 [(1, .int (y1_2)), (0, .ref (ad 0))]) (hsp : K y1_2 r_2 = s_X6_dropFirst r b), W p l e (headSpec wsX6_dropFirst ({ frames := 0, cells := 0, slots := 0, locals := 0 })).room s m ([.ref (ad 0)] : List Value).toArray below meth c H locs 0 0 (MQ below (va_Qv (fun u : Nat → Int32 => u = s_X6_dropFirst r b) (fun (u : Nat → Int32) (t : State) => va_P dC vwCl (ft_WT ad k u b) t.heap) (ft_A 3 ad)) ([.ref (ad 0)] : List Value).toArray s 0 0 (ft_A 3 ad)) (F0 m 28 ls [])) (n_2 : Nat), ∀ (y1_2 : Int32) (i_2 : Nat) (hi_2 : y1_2 = nI i_2) (hm_2 : i_2 ≤ tn 9) (hn_2 : tn 9 < n_2 + i_2) (r_2 : Nat → Int32) (H : Heap) (locs : List Loc) (hP : va_P dC vwCl (ft_WT ad k r_2 b) H) (hD : va_D (ft_A 3 ad) (ft_WT ad k r_2 b)) (hS : va_S (ft_A 3 ad) s.heap H locs) (h1_2 : 1 ≤ i_2) (ls : Array Slot) (hl : lv_has ls 2 [(1, .int (y1_2)), (0, .ref (ad 0))]) (hsp : s_X6_dropFirst_L2 r b K n_2 y1_2 r_2 = s_X6_dropFirst r b), W p l e (headSpec wsX6_dropFirst ({ frames := 0, cells := 0, slots := 0, locals := 0 })).room s m ([.ref (ad 0)] : List Value).toArray below meth c H locs 0 0 (MQ below (va_Qv (fun u : Nat → Int32 => u = s_X6_dropFirst r b) (fun (u : Nat → Int32) (t : State) => va_P dC vwCl (ft_WT ad k u b) t.heap) (ft_A 3 ad)) ([.ref (ad 0)] : List Value).toArray s 0 0 (ft_A 3 ad)) (F0 m 2 ls []) := by
    intro K hKx n_2
    induction n_2 with
    | zero => intro y1_2 i_2 hi_2 hm_2 hn_2; exact absurd hn_2 (by omega)
    | succ n ih_2 =>
      intro y1_2 i_2 hi_2 hm_2 hn_2 r_2 H locs hP hD hS h1_2 ls hl hsp
      rw [s_X6_dropFirst_L2] at hsp
      refine lv_iload_n hx hb dX6_dropFirst_2 rfl (lv_at hl 0 rfl) ?_
      refine lv_bipush (v := 9) hx hb dX6_dropFirst_3 (by decide) ?_
      refine lv_icmp_ge (tgt := 28) hx hb dX6_dropFirst_5 (by decide) (fun c_5 => ?_) (fun c_5 => ?_)
      · replace hsp := (if_pos c_5).symm.trans hsp
        exact hKx y1_2 i_2 hi_2 hm_2 r_2 _ _ hP hD hS h1_2 ls (lv_sub hl [0, 1] rfl) hsp
      · replace hsp := (if_neg c_5).symm.trans hsp
        have hlt_2 := ft_step hi_2 hm_2 c_5
        refine lv_aload_n hx hb dX6_dropFirst_8 rfl (lv_at hl 1 rfl) ?_
        refine va_get (D := dC) (ci := 8) (v := .ref (ad 2)) (C := RX6) (T := TX6) (N := 6) hx hb hts (by decide +kernel) hown hK.1 hP 0 (ft_get' (by decide) rfl) rfl 1 (by decide) (hts (.fieldLink RX6 15 "FoodTruckRota$Truck" "wishes" "[I") (by decide +kernel)) (fun _ h9 => h9) rfl dX6_dropFirst_9 ?_
        refine lv_iload_n hx hb dX6_dropFirst_12 rfl (lv_at hl 0 rfl) ?_
        refine lv_iconst (v := 1) hx hb dX6_dropFirst_13 (by decide) ?_
        refine lv_isub hx hb dX6_dropFirst_14 ?_
        refine lv_aload_n hx hb dX6_dropFirst_15 rfl (lv_at hl 1 rfl) ?_
        refine va_get (D := dC) (ci := 8) (v := .ref (ad 2)) (C := RX6) (T := TX6) (N := 6) hx hb hts (by decide +kernel) hown hK.1 hP 0 (ft_get' (by decide) rfl) rfl 1 (by decide) (hts (.fieldLink RX6 15 "FoodTruckRota$Truck" "wishes" "[I") (by decide +kernel)) (fun _ h9 => h9) rfl dX6_dropFirst_16 ?_
        refine lv_iload_n hx hb dX6_dropFirst_19 rfl (lv_at hl 0 rfl) ?_
        have h_20 : vp_in y1_2 9 := by exact ft_vin hi_2 hlt_2
        refine va_iald hx hb hK.1 hP 2 0 (ft_get' (by decide) rfl) rfl h_20 dX6_dropFirst_20 ?_
        have h_21 : vp_in (y1_2 - 1) 9 := by exact ft_vin1 hi_2 h1_2 hlt_2
        refine va_iast hx hb hK.1 hP hD hS 2 0 (ft_get' (by decide) rfl) rfl h_21 dX6_dropFirst_21 (fun H locs hP hD hS => ?_)
        have hP := ft_cast hP (ft_T_a2 (ft_tn h_21))
        have hD := ft_castD hD (ft_T_a2 (ft_tn h_21))
        have hP : va_P dC vwCl (ft_WT ad k (va_up r_2 (b + 8 + tn (y1_2 - 1)) (ft_ar r_2 (b + 8) 9 (tn y1_2))) b) H := hP
        have hD : va_D (ft_A 3 ad) (ft_WT ad k (va_up r_2 (b + 8 + tn (y1_2 - 1)) (ft_ar r_2 (b + 8) 9 (tn y1_2))) b) := hD
        refine lv_iinc (v := y1_2 + 1) (lv' := [(1, .int (y1_2 + 1)), (0, .ref (ad 0))]) hx hb dX6_dropFirst_22 hl (k := 0) rfl rfl (by decide) rfl (fun ls hl => ?_)
        refine lv_goto (tgt := 2) hx hb dX6_dropFirst_25 (by decide) ?_
        exact ih_2 (y1_2 + 1) (i_2 + 1) (by rw [hi_2, nI_1]) hlt_2 (by omega) (va_up r_2 (b + 8 + tn (y1_2 - 1)) (ft_ar r_2 (b + 8) 9 (tn y1_2))) _ _ hP hD hS (by omega) ls (lv_sub hl [0, 1] rfl) hsp
  refine loop_2 _ (fun y1_2 i_2 hi_2 hm_2 r_2 H locs hP hD hS h1_2 ls hl hsp => ?_) (tn 9 + 1) 1 1 rfl (by decide) (by omega) r _ _ hP hD hS (by decide) ls (lv_sub hl [0, 1] rfl) hsp
  refine lv_aload_n hx hb dX6_dropFirst_28 rfl (lv_at hl 1 rfl) ?_
  refine lv_dup hx hb dX6_dropFirst_29 rfl ?_
  refine va_get (D := dC) (ci := 8) (v := .int (r_2 (b + 2))) (C := RX6) (T := TX6) (N := 6) hx hb hts (by decide +kernel) hown hK.1 hP 0 (ft_get' (by decide) rfl) rfl 2 (by decide) (hts (.fieldLink RX6 24 "FoodTruckRota$Truck" "queued" "I") (by decide +kernel)) (fun _ h9 => h9) rfl dX6_dropFirst_30 ?_
  refine lv_iconst (v := 1) hx hb dX6_dropFirst_33 (by decide) ?_
  refine lv_isub hx hb dX6_dropFirst_34 ?_
  refine va_put (D := dC) (ci := 8) (v := .int ((r_2 (b + 2)) - 1)) (ty := .int) (C := RX6) (T := TX6) (N := 6) hx hb hts (by decide +kernel) tyX6 tyX6_ok nmX6 hown hK.1 hP hD hS 0 (ft_get' (by decide) rfl) rfl 2 (by decide) (hts (.fieldLink RX6 24 "FoodTruckRota$Truck" "queued" "I") (by decide +kernel)) (fun _ h9 => h9) rfl (by decide +kernel) rfl rfl (Nat.le_of_ble_eq_true rfl) dX6_dropFirst_35 (fun H locs hP hD hS => ?_)
  have hP := ft_cast hP ft_T_p2
  have hD := ft_castD hD ft_T_p2
  have hP : va_P dC vwCl (ft_WT ad k (va_up r_2 (b + 2) ((r_2 (b + 2)) - 1)) b) H := hP
  have hD : va_D (ft_A 3 ad) (ft_WT ad k (va_up r_2 (b + 2) ((r_2 (b + 2)) - 1)) b) := hD
  exact W.vret hx hb hr (fun t ht hW => ⟨⟨(va_up r_2 (b + 2) ((r_2 (b + 2)) - 1)), rfl, hsp, ft_heap ht hP⟩, hS.F ht⟩) hS.2.2 dX6_dropFirst_38

def s_X6_minutesForQueue_L4 (r : Nat → Int32) (b : Nat)  (K : Int32 → Int32 → Int32) : Nat → Int32 → Int32 → Int32
  | 0, y1_4, y2_4 => K y1_4 y2_4
  | n + 1, y1_4, y2_4 => if (r (b + 2)) ≤ y2_4 then (K y1_4 y2_4) else (s_X6_minutesForQueue_L4 r b K n (y1_4 + (s_X7_minutesFor (s_X6_wishAt r b y2_4))) (y2_4 + 1))
def s_X6_minutesForQueue (r : Nat → Int32) (b : Nat)  : Int32 := s_X6_minutesForQueue_L4 r b (fun y1_4 y2_4 => if (r (b + 1)) ≤ 0 then (y1_4) else (y1_4 - ((s_X7_minutesFor (s_X6_wishAt r b 0)) - (r (b + 1))))) (tn (r (b + 2)) + 1) 0 0
set_option maxHeartbeats 4000000 in
set_option maxRecDepth 100000 in
theorem c_X6_minutesForQueue (l : Launch) (dC : va_G) (ad : Nat → Nat) (k : Nat → ClassId) (r : Nat → Int32) (b : Nat)  : Met l yX6_minutesForQueue wsX6_minutesForQueue ({ frames := 1, cells := 0, slots := 0, locals := 21 }) (ft_Pc dC k [.ref (ad 0)] (ft_WT ad k r b)) (vp_Si (fun z : Int32 => z = s_X6_minutesForQueue r b)) 0 0 (fun _ => False) := by
  refine Met.ofW (cc := cX6_minutesForQueue) (maxL := 3) (ret := (some .int)) (by decide) rfl ?_
  intro p e s m args below meth c s₁ B hml hv
  obtain ⟨hargs, hP, hK⟩ := hv
  subst hargs
  have hx := B.exec
  have hb := B.bytes
  have hr := B.returns
  have hts := atoms_spec (ws := wsX6_minutesForQueue) B.pre
  have hown : s.vm.findClass RX6 = some m.cls := findClass_of_methodNamed B.named
  have hlocks := B.notSynchronized
  have hl := lv_entry ([.ref (ad 0)]) (n := 3) (Nat.le_of_ble_eq_true rfl)
  rw [lg_entry_eq]
  generalize (lg_sl ([.ref (ad 0)]) ++ List.replicate (3 - (lg_sl ([.ref (ad 0)])).length) Slot.unset).toArray = ls at hl ⊢
  have hl : lv_has ls 3 [(0, .ref (ad 0))] := hl
  have hsp := (s_X6_minutesForQueue.eq_1 r b ).symm
  refine lv_iconst (v := 0) hx hb dX6_minutesForQueue_0 (by decide) ?_
  refine lv_istore_n (lv' := [(1, .int (0)), (0, .ref (ad 0))]) hx hb dX6_minutesForQueue_1 rfl hl (by decide) rfl (fun ls hl => ?_)
  refine lv_iconst (v := 0) hx hb dX6_minutesForQueue_2 (by decide) ?_
  refine lv_istore_n (lv' := [(2, .int (0)), (1, .int (0)), (0, .ref (ad 0))]) hx hb dX6_minutesForQueue_3 rfl hl (by decide) rfl (fun ls hl => ?_)
  have loop_4 : ∀ (K : Int32 → Int32 → Int32) (hKx : ∀ (y1_4 : Int32) (y2_4 : Int32) (i_4 : Nat) (hi_4 : y2_4 = nI i_4) (hm_4 : i_4 ≤ tn (r (b + 2))) (ls : Array Slot) (hl : lv_has ls 3 [(2, .int (y2_4)), (1, .int (y1_4)), (0, .ref (ad 0))]) (hsp : K y1_4 y2_4 = s_X6_minutesForQueue r b), W p l e (headSpec wsX6_minutesForQueue ({ frames := 1, cells := 0, slots := 0, locals := 21 })).room s m ([.ref (ad 0)] : List Value).toArray below meth c s.heap [] 0 0 (MQ below (vp_Si (fun z : Int32 => z = s_X6_minutesForQueue r b)) ([.ref (ad 0)] : List Value).toArray s 0 0 (fun _ => False)) (F0 m 29 ls [])) (n_4 : Nat), ∀ (y1_4 : Int32) (y2_4 : Int32) (i_4 : Nat) (hi_4 : y2_4 = nI i_4) (hm_4 : i_4 ≤ tn (r (b + 2))) (hn_4 : tn (r (b + 2)) < n_4 + i_4) (ls : Array Slot) (hl : lv_has ls 3 [(2, .int (y2_4)), (1, .int (y1_4)), (0, .ref (ad 0))]) (hsp : s_X6_minutesForQueue_L4 r b K n_4 y1_4 y2_4 = s_X6_minutesForQueue r b), W p l e (headSpec wsX6_minutesForQueue ({ frames := 1, cells := 0, slots := 0, locals := 21 })).room s m ([.ref (ad 0)] : List Value).toArray below meth c s.heap [] 0 0 (MQ below (vp_Si (fun z : Int32 => z = s_X6_minutesForQueue r b)) ([.ref (ad 0)] : List Value).toArray s 0 0 (fun _ => False)) (F0 m 4 ls []) := by
    intro K hKx n_4
    induction n_4 with
    | zero => intro y1_4 y2_4 i_4 hi_4 hm_4 hn_4; exact absurd hn_4 (by omega)
    | succ n ih_4 =>
      intro y1_4 y2_4 i_4 hi_4 hm_4 hn_4 ls hl hsp
      rw [s_X6_minutesForQueue_L4] at hsp
      refine lv_iload_n hx hb dX6_minutesForQueue_4 rfl (lv_at hl 0 rfl) ?_
      refine lv_aload_n hx hb dX6_minutesForQueue_5 rfl (lv_at hl 2 rfl) ?_
      refine va_get (D := dC) (ci := 8) (v := .int (r (b + 2))) (C := RX6) (T := TX6) (N := 6) hx hb hts (by decide +kernel) hown hK.1 hP 0 (ft_get' (by decide) rfl) rfl 2 (by decide) (hts (.fieldLink RX6 24 "FoodTruckRota$Truck" "queued" "I") (by decide +kernel)) (fun _ h9 => h9) rfl dX6_minutesForQueue_6 ?_
      refine lv_icmp_ge (tgt := 29) hx hb dX6_minutesForQueue_9 (by decide) (fun c_9 => ?_) (fun c_9 => ?_)
      · replace hsp := (if_pos c_9).symm.trans hsp
        exact hKx y1_4 y2_4 i_4 hi_4 hm_4 ls (lv_sub hl [0, 1, 2] rfl) hsp
      · replace hsp := (if_neg c_9).symm.trans hsp
        have hlt_4 := ft_step hi_4 hm_4 c_9
        refine lv_iload_n hx hb dX6_minutesForQueue_12 rfl (lv_at hl 1 rfl) ?_
        refine lv_aload_n hx hb dX6_minutesForQueue_13 rfl (lv_at hl 2 rfl) ?_
        refine lv_iload_n hx hb dX6_minutesForQueue_14 rfl (lv_at hl 0 rfl) ?_
        refine vp_callSi (va_Run.run (va_runV (As := [.int (y2_4)]) (rest := [.int (y1_4)]) ⟨hx, hb, hml, hown, hts⟩ (c_X6_wishAt l dC ad k r b y2_4) (cwV 1 hts gX6_minutesForQueue_X6_wishAt rfl rfl rfl (by decide +kernel) ⟨Nat.le_of_ble_eq_true rfl, Nat.le_of_ble_eq_true rfl⟩) (ft_preVc hK hP (ci := 8) rfl (ft_get' (by decide) rfl)) rfl rfl hl.1 rfl (lv_room (Nat.le_of_ble_eq_true rfl)) dX6_minutesForQueue_15 ⟨Nat.le_of_ble_eq_true rfl, Nat.le_of_ble_eq_true rfl⟩)) (fun z hz => ?_)
        subst hz
        refine vp_callSi (va_Run.run (va_runSN (As := [.int ((s_X6_wishAt r b y2_4))]) (rest := [.int (y1_4)]) ⟨hx, hb, hml, hown, hts⟩ (c_X7_minutesFor l (s_X6_wishAt r b y2_4)) ⟨va_cnB 1 hts ggX6_minutesForQueue_X7_minutesFor rfl rfl rfl (ft_nm hK.2 8 rfl) (hts (.initialized RX7) (by decide +kernel)) (by decide +kernel) ⟨Nat.le_of_ble_eq_true rfl, Nat.le_of_ble_eq_true rfl⟩, hts (.static yX7_minutesFor) (by decide +kernel), trivial⟩ ft_preSn rfl rfl hl.1 rfl (lv_room (Nat.le_of_ble_eq_true rfl)) dX6_minutesForQueue_18 ⟨Nat.le_of_ble_eq_true rfl, Nat.le_of_ble_eq_true rfl⟩)) (fun z hz => ?_)
        subst hz
        refine lv_iadd hx hb dX6_minutesForQueue_21 ?_
        refine lv_istore_n (lv' := [(1, .int (y1_4 + (s_X7_minutesFor (s_X6_wishAt r b y2_4)))), (2, .int (y2_4)), (0, .ref (ad 0))]) hx hb dX6_minutesForQueue_22 rfl hl (by decide) rfl (fun ls hl => ?_)
        refine lv_iinc (v := y2_4 + 1) (lv' := [(2, .int (y2_4 + 1)), (1, .int (y1_4 + (s_X7_minutesFor (s_X6_wishAt r b y2_4)))), (0, .ref (ad 0))]) hx hb dX6_minutesForQueue_23 hl (k := 1) rfl rfl (by decide) rfl (fun ls hl => ?_)
        refine lv_goto (tgt := 4) hx hb dX6_minutesForQueue_26 (by decide) ?_
        exact ih_4 (y1_4 + (s_X7_minutesFor (s_X6_wishAt r b y2_4))) (y2_4 + 1) (i_4 + 1) (by rw [hi_4, nI_1]) hlt_4 (by omega) ls (lv_sub hl [0, 1, 2] rfl) hsp
  refine loop_4 _ (fun y1_4 y2_4 i_4 hi_4 hm_4 ls hl hsp => ?_) (tn (r (b + 2)) + 1) 0 0 0 rfl (by omega) (by omega) ls (lv_sub hl [0, 1, 2] rfl) hsp
  refine lv_aload_n hx hb dX6_minutesForQueue_29 rfl (lv_at hl 2 rfl) ?_
  refine va_get (D := dC) (ci := 8) (v := .int (r (b + 1))) (C := RX6) (T := TX6) (N := 6) hx hb hts (by decide +kernel) hown hK.1 hP 0 (ft_get' (by decide) rfl) rfl 3 (by decide) (hts (.fieldLink RX6 28 "FoodTruckRota$Truck" "minutesToGo" "I") (by decide +kernel)) (fun _ h9 => h9) rfl dX6_minutesForQueue_30 ?_
  refine lv_if_le (tgt := 52) hx hb dX6_minutesForQueue_33 (by decide) (fun c_33 => ?_) (fun c_33 => ?_)
  · replace hsp := (if_pos c_33).symm.trans hsp
    refine lv_iload_n hx hb dX6_minutesForQueue_52 rfl (lv_at hl 1 rfl) ?_
    exact W.iret (v := y1_4) hx hb hr (fun t ht hW => ft_endi (post := fun z : Int32 => z = s_X6_minutesForQueue r b) hsp ht) (fun _ h => absurd h List.not_mem_nil) dX6_minutesForQueue_53
  · replace hsp := (if_neg c_33).symm.trans hsp
    refine lv_iload_n hx hb dX6_minutesForQueue_36 rfl (lv_at hl 1 rfl) ?_
    refine lv_aload_n hx hb dX6_minutesForQueue_37 rfl (lv_at hl 2 rfl) ?_
    refine lv_iconst (v := 0) hx hb dX6_minutesForQueue_38 (by decide) ?_
    refine vp_callSi (va_Run.run (va_runV (As := [.int (0)]) (rest := [.int (y1_4)]) ⟨hx, hb, hml, hown, hts⟩ (c_X6_wishAt l dC ad k r b 0) (cwV 1 hts gX6_minutesForQueue_X6_wishAt rfl rfl rfl (by decide +kernel) ⟨Nat.le_of_ble_eq_true rfl, Nat.le_of_ble_eq_true rfl⟩) (ft_preVc hK hP (ci := 8) rfl (ft_get' (by decide) rfl)) rfl rfl hl.1 rfl (lv_room (Nat.le_of_ble_eq_true rfl)) dX6_minutesForQueue_39 ⟨Nat.le_of_ble_eq_true rfl, Nat.le_of_ble_eq_true rfl⟩)) (fun z hz => ?_)
    subst hz
    refine vp_callSi (va_Run.run (va_runSN (As := [.int ((s_X6_wishAt r b 0))]) (rest := [.int (y1_4)]) ⟨hx, hb, hml, hown, hts⟩ (c_X7_minutesFor l (s_X6_wishAt r b 0)) ⟨va_cnB 1 hts ggX6_minutesForQueue_X7_minutesFor rfl rfl rfl (ft_nm hK.2 8 rfl) (hts (.initialized RX7) (by decide +kernel)) (by decide +kernel) ⟨Nat.le_of_ble_eq_true rfl, Nat.le_of_ble_eq_true rfl⟩, hts (.static yX7_minutesFor) (by decide +kernel), trivial⟩ ft_preSn rfl rfl hl.1 rfl (lv_room (Nat.le_of_ble_eq_true rfl)) dX6_minutesForQueue_42 ⟨Nat.le_of_ble_eq_true rfl, Nat.le_of_ble_eq_true rfl⟩)) (fun z hz => ?_)
    subst hz
    refine lv_aload_n hx hb dX6_minutesForQueue_45 rfl (lv_at hl 2 rfl) ?_
    refine va_get (D := dC) (ci := 8) (v := .int (r (b + 1))) (C := RX6) (T := TX6) (N := 6) hx hb hts (by decide +kernel) hown hK.1 hP 0 (ft_get' (by decide) rfl) rfl 3 (by decide) (hts (.fieldLink RX6 28 "FoodTruckRota$Truck" "minutesToGo" "I") (by decide +kernel)) (fun _ h9 => h9) rfl dX6_minutesForQueue_46 ?_
    refine lv_isub hx hb dX6_minutesForQueue_49 ?_
    refine lv_isub hx hb dX6_minutesForQueue_50 ?_
    refine lv_istore_n (lv' := [(1, .int (y1_4 - ((s_X7_minutesFor (s_X6_wishAt r b 0)) - (r (b + 1))))), (2, .int (y2_4)), (0, .ref (ad 0))]) hx hb dX6_minutesForQueue_51 rfl hl (by decide) rfl (fun ls hl => ?_)
    refine lv_iload_n hx hb dX6_minutesForQueue_52 rfl (lv_at hl 0 rfl) ?_
    exact W.iret (v := y1_4 - ((s_X7_minutesFor (s_X6_wishAt r b 0)) - (r (b + 1)))) hx hb hr (fun t ht hW => ft_endi (post := fun z : Int32 => z = s_X6_minutesForQueue r b) hsp ht) (fun _ h => absurd h List.not_mem_nil) dX6_minutesForQueue_53

def s_X6_isPermitted (r : Nat → Int32) (b : Nat) (x1 : Int32) : Int32 := if (s_X7_isWeekday x1) = 0 then (0) else (if ((r (b + 3)) &&& (1 <<< (x1 &&& 31))) = 0 then (0) else (1))
set_option maxHeartbeats 4000000 in
set_option maxRecDepth 100000 in
theorem c_X6_isPermitted (l : Launch) (dC : va_G) (ad : Nat → Nat) (k : Nat → ClassId) (r : Nat → Int32) (b : Nat) (x1 : Int32) : Met l yX6_isPermitted wsX6_isPermitted ({ frames := 1, cells := 0, slots := 0, locals := 20 }) (ft_Pc dC k [.ref (ad 0), .int x1] (ft_WT ad k r b)) (vp_Si (fun z : Int32 => z = s_X6_isPermitted r b x1)) 0 0 (fun _ => False) := by
  refine Met.ofW (cc := cX6_isPermitted) (maxL := 2) (ret := (some .boolean)) (by decide) rfl ?_
  intro p e s m args below meth c s₁ B hml hv
  obtain ⟨hargs, hP, hK⟩ := hv
  subst hargs
  have hx := B.exec
  have hb := B.bytes
  have hr := B.returns
  have hts := atoms_spec (ws := wsX6_isPermitted) B.pre
  have hown : s.vm.findClass RX6 = some m.cls := findClass_of_methodNamed B.named
  have hlocks := B.notSynchronized
  have hl := lv_entry ([.ref (ad 0), .int x1]) (n := 2) (Nat.le_of_ble_eq_true rfl)
  rw [lg_entry_eq]
  generalize (lg_sl ([.ref (ad 0), .int x1]) ++ List.replicate (2 - (lg_sl ([.ref (ad 0), .int x1])).length) Slot.unset).toArray = ls at hl ⊢
  have hl : lv_has ls 2 [(0, .ref (ad 0)), (1, .int (x1))] := hl
  have hsp := (s_X6_isPermitted.eq_1 r b x1).symm
  refine lv_iload_n hx hb dX6_isPermitted_0 rfl (lv_at hl 1 rfl) ?_
  refine vp_callSi (va_Run.run (va_runSN (As := [.int (x1)]) (rest := []) ⟨hx, hb, hml, hown, hts⟩ (c_X7_isWeekday l x1) ⟨va_cnB 1 hts ggX6_isPermitted_X7_isWeekday rfl rfl rfl (ft_nm hK.2 4 rfl) (hts (.initialized RX7) (by decide +kernel)) (by decide +kernel) ⟨Nat.le_of_ble_eq_true rfl, Nat.le_of_ble_eq_true rfl⟩, hts (.static yX7_isWeekday) (by decide +kernel), trivial⟩ ft_preSn rfl rfl hl.1 rfl (lv_room (Nat.le_of_ble_eq_true rfl)) dX6_isPermitted_1 ⟨Nat.le_of_ble_eq_true rfl, Nat.le_of_ble_eq_true rfl⟩)) (fun z hz => ?_)
  subst hz
  refine lv_if_eq (tgt := 22) hx hb dX6_isPermitted_4 (by decide) (fun c_4 => ?_) (fun c_4 => ?_)
  · replace hsp := (if_pos c_4).symm.trans hsp
    refine lv_iconst (v := 0) hx hb dX6_isPermitted_22 (by decide) ?_
    exact W.zret (v := 0) hx hb hr (rfl) (fun t ht hW => ft_endi (post := fun z : Int32 => z = s_X6_isPermitted r b x1) hsp ht) (fun _ h => absurd h List.not_mem_nil) dX6_isPermitted_23
  · replace hsp := (if_neg c_4).symm.trans hsp
    refine lv_aload_n hx hb dX6_isPermitted_7 rfl (lv_at hl 0 rfl) ?_
    refine va_get (D := dC) (ci := 8) (v := .int (r (b + 3))) (C := RX6) (T := TX6) (N := 6) hx hb hts (by decide +kernel) hown hK.1 hP 0 (ft_get' (by decide) rfl) rfl 5 (by decide) (hts (.fieldLink RX6 34 "FoodTruckRota$Truck" "permitBits" "I") (by decide +kernel)) (fun _ h9 => h9) rfl dX6_isPermitted_8 ?_
    refine lv_iconst (v := 1) hx hb dX6_isPermitted_11 (by decide) ?_
    refine lv_iload_n hx hb dX6_isPermitted_12 rfl (lv_at hl 1 rfl) ?_
    refine lv_ishl hx hb dX6_isPermitted_13 ?_
    refine lv_iand hx hb dX6_isPermitted_14 ?_
    refine lv_if_eq (tgt := 22) hx hb dX6_isPermitted_15 (by decide) (fun c_15 => ?_) (fun c_15 => ?_)
    · replace hsp := (if_pos c_15).symm.trans hsp
      refine lv_iconst (v := 0) hx hb dX6_isPermitted_22 (by decide) ?_
      exact W.zret (v := 0) hx hb hr (rfl) (fun t ht hW => ft_endi (post := fun z : Int32 => z = s_X6_isPermitted r b x1) hsp ht) (fun _ h => absurd h List.not_mem_nil) dX6_isPermitted_23
    · replace hsp := (if_neg c_15).symm.trans hsp
      refine lv_iconst (v := 1) hx hb dX6_isPermitted_18 (by decide) ?_
      refine lv_goto (tgt := 23) hx hb dX6_isPermitted_19 (by decide) ?_
      exact W.zret (v := 1) hx hb hr (rfl) (fun t ht hW => ft_endi (post := fun z : Int32 => z = s_X6_isPermitted r b x1) hsp ht) (fun _ h => absurd h List.not_mem_nil) dX6_isPermitted_23

def s_X6_ranksBefore (r : Nat → Int32) (b : Nat) (r2 : Nat → Int32) (b2 : Nat)  : Int32 := if (r (b + 0)) = (r2 (b2 + 0)) then (if (s_X6_sumOfPortions r b) ≤ (s_X6_sumOfPortions r2 b2) then (0) else (1)) else (if (r (b + 0)) ≤ (r2 (b2 + 0)) then (0) else (1))
set_option maxHeartbeats 4000000 in
set_option maxRecDepth 100000 in
theorem c_X6_ranksBefore (l : Launch) (dC : va_G) (ad : Nat → Nat) (k : Nat → ClassId) (r : Nat → Int32) (b : Nat) (ad2 : Nat → Nat) (r2 : Nat → Int32) (b2 : Nat)  : Met l yX6_ranksBefore wsX6_ranksBefore ({ frames := 1, cells := 0, slots := 0, locals := 22 }) (ft_Pc2 dC k [.ref (ad 0), .ref (ad2 0)] (ft_WT ad k r b) (ft_WT ad2 k r2 b2)) (vp_Si (fun z : Int32 => z = s_X6_ranksBefore r b r2 b2)) 0 0 (fun _ => False) := by
  refine Met.ofW (cc := cX6_ranksBefore) (maxL := 2) (ret := (some .boolean)) (by decide) rfl ?_
  intro p e s m args below meth c s₁ B hml hv
  obtain ⟨hargs, hP, hP2, hK⟩ := hv
  subst hargs
  have hx := B.exec
  have hb := B.bytes
  have hr := B.returns
  have hts := atoms_spec (ws := wsX6_ranksBefore) B.pre
  have hown : s.vm.findClass RX6 = some m.cls := findClass_of_methodNamed B.named
  have hlocks := B.notSynchronized
  have hl := lv_entry ([.ref (ad 0), .ref (ad2 0)]) (n := 2) (Nat.le_of_ble_eq_true rfl)
  rw [lg_entry_eq]
  generalize (lg_sl ([.ref (ad 0), .ref (ad2 0)]) ++ List.replicate (2 - (lg_sl ([.ref (ad 0), .ref (ad2 0)])).length) Slot.unset).toArray = ls at hl ⊢
  have hl : lv_has ls 2 [(0, .ref (ad 0)), (1, .ref (ad2 0))] := hl
  have hsp := (s_X6_ranksBefore.eq_1 r b r2 b2 ).symm
  refine lv_aload_n hx hb dX6_ranksBefore_0 rfl (lv_at hl 0 rfl) ?_
  refine va_get (D := dC) (ci := 8) (v := .int (r (b + 0))) (C := RX6) (T := TX6) (N := 6) hx hb hts (by decide +kernel) hown hK.1 hP 0 (ft_get' (by decide) rfl) rfl 4 (by decide) (hts (.fieldLink RX6 31 "FoodTruckRota$Truck" "earned" "I") (by decide +kernel)) (fun _ h9 => h9) rfl dX6_ranksBefore_1 ?_
  refine lv_aload_n hx hb dX6_ranksBefore_4 rfl (lv_at hl 1 rfl) ?_
  refine va_get (D := dC) (ci := 8) (v := .int (r2 (b2 + 0))) (C := RX6) (T := TX6) (N := 6) hx hb hts (by decide +kernel) hown hK.1 hP2 0 (ft_get' (by decide) rfl) rfl 4 (by decide) (hts (.fieldLink RX6 31 "FoodTruckRota$Truck" "earned" "I") (by decide +kernel)) (fun _ h9 => h9) rfl dX6_ranksBefore_5 ?_
  refine lv_icmp_eq (tgt := 28) hx hb dX6_ranksBefore_8 (by decide) (fun c_8 => ?_) (fun c_8 => ?_)
  · replace hsp := (if_pos c_8).symm.trans hsp
    refine lv_aload_n hx hb dX6_ranksBefore_28 rfl (lv_at hl 0 rfl) ?_
    refine vp_callSi (va_Run.run (va_runV (As := []) (rest := []) ⟨hx, hb, hml, hown, hts⟩ (c_X6_sumOfPortions l dC ad k r b) (cwV 0 hts gX6_ranksBefore_X6_sumOfPortions rfl rfl rfl (by decide +kernel) ⟨Nat.le_of_ble_eq_true rfl, Nat.le_of_ble_eq_true rfl⟩) (ft_preVc hK hP (ci := 8) rfl (ft_get' (by decide) rfl)) rfl rfl hl.1 rfl (lv_room (Nat.le_of_ble_eq_true rfl)) dX6_ranksBefore_29 ⟨Nat.le_of_ble_eq_true rfl, Nat.le_of_ble_eq_true rfl⟩)) (fun z hz => ?_)
    subst hz
    refine lv_aload_n hx hb dX6_ranksBefore_32 rfl (lv_at hl 1 rfl) ?_
    refine vp_callSi (va_Run.run (va_runV (As := []) (rest := [.int ((s_X6_sumOfPortions r b))]) ⟨hx, hb, hml, hown, hts⟩ (c_X6_sumOfPortions l dC ad2 k r2 b2) (cwV 0 hts gX6_ranksBefore_X6_sumOfPortions rfl rfl rfl (by decide +kernel) ⟨Nat.le_of_ble_eq_true rfl, Nat.le_of_ble_eq_true rfl⟩) (ft_preVc hK hP2 (ci := 8) rfl (ft_get' (by decide) rfl)) rfl rfl hl.1 rfl (lv_room (Nat.le_of_ble_eq_true rfl)) dX6_ranksBefore_33 ⟨Nat.le_of_ble_eq_true rfl, Nat.le_of_ble_eq_true rfl⟩)) (fun z hz => ?_)
    subst hz
    refine lv_icmp_le (tgt := 43) hx hb dX6_ranksBefore_36 (by decide) (fun c_36 => ?_) (fun c_36 => ?_)
    · replace hsp := (if_pos c_36).symm.trans hsp
      refine lv_iconst (v := 0) hx hb dX6_ranksBefore_43 (by decide) ?_
      exact W.zret (v := 0) hx hb hr (rfl) (fun t ht hW => ft_endi (post := fun z : Int32 => z = s_X6_ranksBefore r b r2 b2) hsp ht) (fun _ h => absurd h List.not_mem_nil) dX6_ranksBefore_44
    · replace hsp := (if_neg c_36).symm.trans hsp
      refine lv_iconst (v := 1) hx hb dX6_ranksBefore_39 (by decide) ?_
      refine lv_goto (tgt := 44) hx hb dX6_ranksBefore_40 (by decide) ?_
      exact W.zret (v := 1) hx hb hr (rfl) (fun t ht hW => ft_endi (post := fun z : Int32 => z = s_X6_ranksBefore r b r2 b2) hsp ht) (fun _ h => absurd h List.not_mem_nil) dX6_ranksBefore_44
  · replace hsp := (if_neg c_8).symm.trans hsp
    refine lv_aload_n hx hb dX6_ranksBefore_11 rfl (lv_at hl 0 rfl) ?_
    refine va_get (D := dC) (ci := 8) (v := .int (r (b + 0))) (C := RX6) (T := TX6) (N := 6) hx hb hts (by decide +kernel) hown hK.1 hP 0 (ft_get' (by decide) rfl) rfl 4 (by decide) (hts (.fieldLink RX6 31 "FoodTruckRota$Truck" "earned" "I") (by decide +kernel)) (fun _ h9 => h9) rfl dX6_ranksBefore_12 ?_
    refine lv_aload_n hx hb dX6_ranksBefore_15 rfl (lv_at hl 1 rfl) ?_
    refine va_get (D := dC) (ci := 8) (v := .int (r2 (b2 + 0))) (C := RX6) (T := TX6) (N := 6) hx hb hts (by decide +kernel) hown hK.1 hP2 0 (ft_get' (by decide) rfl) rfl 4 (by decide) (hts (.fieldLink RX6 31 "FoodTruckRota$Truck" "earned" "I") (by decide +kernel)) (fun _ h9 => h9) rfl dX6_ranksBefore_16 ?_
    refine lv_icmp_le (tgt := 26) hx hb dX6_ranksBefore_19 (by decide) (fun c_19 => ?_) (fun c_19 => ?_)
    · replace hsp := (if_pos c_19).symm.trans hsp
      refine lv_iconst (v := 0) hx hb dX6_ranksBefore_26 (by decide) ?_
      exact W.zret (v := 0) hx hb hr (rfl) (fun t ht hW => ft_endi (post := fun z : Int32 => z = s_X6_ranksBefore r b r2 b2) hsp ht) (fun _ h => absurd h List.not_mem_nil) dX6_ranksBefore_27
    · replace hsp := (if_neg c_19).symm.trans hsp
      refine lv_iconst (v := 1) hx hb dX6_ranksBefore_22 (by decide) ?_
      refine lv_goto (tgt := 27) hx hb dX6_ranksBefore_23 (by decide) ?_
      exact W.zret (v := 1) hx hb hr (rfl) (fun t ht hW => ft_endi (post := fun z : Int32 => z = s_X6_ranksBefore r b r2 b2) hsp ht) (fun _ h => absurd h List.not_mem_nil) dX6_ranksBefore_27

def s_X6_copyFrom (r : Nat → Int32) (b : Nat) (r2 : Nat → Int32) (b2 : Nat)  : (Nat → Int32) := va_up (va_up (va_up (va_up (ft_cp (ft_cp r (b + 4) r2 (b2 + 4) 4) (b + 8) r2 (b2 + 8) 9) (b + 2) (r2 (b2 + 2))) (b + 1) (r2 (b2 + 1))) (b + 0) (r2 (b2 + 0))) (b + 3) (r2 (b2 + 3))
set_option maxHeartbeats 4000000 in
set_option maxRecDepth 100000 in
theorem c_X6_copyFrom (l : Launch) (dC : va_G) (ad : Nat → Nat) (k : Nat → ClassId) (r : Nat → Int32) (b : Nat) (ad2 : Nat → Nat) (r2 : Nat → Int32) (b2 : Nat)  : Met l yX6_copyFrom wsX6_copyFrom ({ frames := 1, cells := 0, slots := 0, locals := 60 }) (ft_Pd dC k [.ref (ad 0), .ref (ad2 0)] (ft_WT2 ad k r b ad2 r2 b2)) (va_Qv (fun u : Nat → Int32 => u = s_X6_copyFrom r b r2 b2) (fun (u : Nat → Int32) (t : State) => va_P dC vwCl (ft_WT2 ad k u b ad2 r2 b2) t.heap) (ft_A 6 (ft_bl 3 ad ad2))) 0 0 (ft_A 6 (ft_bl 3 ad ad2)) := by
  refine Met.ofW (cc := cX6_copyFrom) (maxL := 2) (ret := none) (by decide) rfl ?_
  intro p e s m args below meth c s₁ B hml hv
  obtain ⟨hargs, hP, hK, hD0⟩ := hv
  subst hargs
  have hx := B.exec
  have hb := B.bytes
  have hr := B.returns
  have hts := atoms_spec (ws := wsX6_copyFrom) B.pre
  have hown : s.vm.findClass RX6 = some m.cls := findClass_of_methodNamed B.named
  have hlocks := B.notSynchronized
  have hD := ft_D_self hD0
  have hS : va_S (ft_A 6 (ft_bl 3 ad ad2)) s.heap s.heap [] := va_S.rf
  have hl := lv_entry ([.ref (ad 0), .ref (ad2 0)]) (n := 2) (Nat.le_of_ble_eq_true rfl)
  rw [lg_entry_eq]
  generalize (lg_sl ([.ref (ad 0), .ref (ad2 0)]) ++ List.replicate (2 - (lg_sl ([.ref (ad 0), .ref (ad2 0)])).length) Slot.unset).toArray = ls at hl ⊢
  have hl : lv_has ls 2 [(0, .ref (ad 0)), (1, .ref (ad2 0))] := hl
  have hsp := (s_X6_copyFrom.eq_1 r b r2 b2 ).symm
  refine lv_aload_n hx hb dX6_copyFrom_0 rfl (lv_at hl 1 rfl) ?_
  refine va_get (D := dC) (ci := 8) (v := .ref (ad2 1)) (C := RX6) (T := TX6) (N := 6) hx hb hts (by decide +kernel) hown hK.1 hP 3 (ft_get' (by decide) rfl) rfl 0 (by decide) (hts (.fieldLink RX6 9 "FoodTruckRota$Truck" "portions" "[I") (by decide +kernel)) (fun _ h9 => h9) rfl dX6_copyFrom_1 ?_
  refine lv_iconst (v := 0) hx hb dX6_copyFrom_4 (by decide) ?_
  refine lv_aload_n hx hb dX6_copyFrom_5 rfl (lv_at hl 0 rfl) ?_
  refine va_get (D := dC) (ci := 8) (v := .ref (ad 1)) (C := RX6) (T := TX6) (N := 6) hx hb hts (by decide +kernel) hown hK.1 hP 0 (ft_get' (by decide) rfl) rfl 0 (by decide) (hts (.fieldLink RX6 9 "FoodTruckRota$Truck" "portions" "[I") (by decide +kernel)) (fun _ h9 => h9) rfl dX6_copyFrom_6 ?_
  refine lv_iconst (v := 0) hx hb dX6_copyFrom_9 (by decide) ?_
  refine lv_iconst (v := 4) hx hb dX6_copyFrom_10 (by decide) ?_
  refine va_copyi hx hb (hml.trans hl.1.symm) hown (hts (.methodLink RX6 18 arraycopyName) (by decide +kernel)) (hts (.native arraycopyName) (by decide +kernel)) (hts (.static arraycopyName) (by decide +kernel)) (hts (.initialized "java/lang/System") (by decide +kernel)) hK.1 hP hD hS 4 1 0 0 (ft_get' (by decide) rfl) (ft_get' (by decide) rfl) rfl rfl rfl (by decide) (by decide) (by decide) (by decide) (by decide) (fun _ _ => rfl) (Nat.le_of_ble_eq_true rfl) (Nat.le_of_ble_eq_true rfl) dX6_copyFrom_11 (fun H locs hP hD hS => ?_)
  have hP := ft_cast hP (ft_bl_set (n := 3) (m := 3) (ad2 := ad2) (vb := ft_T ad2 k r2 b2) (by decide) (ft_T_c1 (ad := ad) (k := k) (r := r) (r2 := r2) (b := b) (b2 := b2)))
  have hD := ft_castD hD (ft_bl_set (n := 3) (m := 3) (ad2 := ad2) (vb := ft_T ad2 k r2 b2) (by decide) (ft_T_c1 (ad := ad) (k := k) (r := r) (r2 := r2) (b := b) (b2 := b2)))
  have hP : va_P dC vwCl (ft_WT2 ad k (ft_cp r (b + 4) r2 (b2 + 4) 4) b ad2 r2 b2) H := hP
  have hD : va_D (ft_A 6 (ft_bl 3 ad ad2)) (ft_WT2 ad k (ft_cp r (b + 4) r2 (b2 + 4) 4) b ad2 r2 b2) := hD
  refine lv_aload_n hx hb dX6_copyFrom_14 rfl (lv_at hl 1 rfl) ?_
  refine va_get (D := dC) (ci := 8) (v := .ref (ad2 2)) (C := RX6) (T := TX6) (N := 6) hx hb hts (by decide +kernel) hown hK.1 hP 3 (ft_get' (by decide) rfl) rfl 1 (by decide) (hts (.fieldLink RX6 15 "FoodTruckRota$Truck" "wishes" "[I") (by decide +kernel)) (fun _ h9 => h9) rfl dX6_copyFrom_15 ?_
  refine lv_iconst (v := 0) hx hb dX6_copyFrom_18 (by decide) ?_
  refine lv_aload_n hx hb dX6_copyFrom_19 rfl (lv_at hl 0 rfl) ?_
  refine va_get (D := dC) (ci := 8) (v := .ref (ad 2)) (C := RX6) (T := TX6) (N := 6) hx hb hts (by decide +kernel) hown hK.1 hP 0 (ft_get' (by decide) rfl) rfl 1 (by decide) (hts (.fieldLink RX6 15 "FoodTruckRota$Truck" "wishes" "[I") (by decide +kernel)) (fun _ h9 => h9) rfl dX6_copyFrom_20 ?_
  refine lv_iconst (v := 0) hx hb dX6_copyFrom_23 (by decide) ?_
  refine lv_bipush (v := 9) hx hb dX6_copyFrom_24 (by decide) ?_
  refine va_copyi hx hb (hml.trans hl.1.symm) hown (hts (.methodLink RX6 18 arraycopyName) (by decide +kernel)) (hts (.native arraycopyName) (by decide +kernel)) (hts (.static arraycopyName) (by decide +kernel)) (hts (.initialized "java/lang/System") (by decide +kernel)) hK.1 hP hD hS 5 2 0 0 (ft_get' (by decide) rfl) (ft_get' (by decide) rfl) rfl rfl rfl (by decide) (by decide) (by decide) (by decide) (by decide) (fun _ _ => rfl) (Nat.le_of_ble_eq_true rfl) (Nat.le_of_ble_eq_true rfl) dX6_copyFrom_26 (fun H locs hP hD hS => ?_)
  have hP := ft_cast hP (ft_bl_set (n := 3) (m := 3) (ad2 := ad2) (vb := ft_T ad2 k r2 b2) (by decide) (ft_T_c2 (ad := ad) (k := k) (r := (ft_cp r (b + 4) r2 (b2 + 4) 4)) (r2 := r2) (b := b) (b2 := b2)))
  have hD := ft_castD hD (ft_bl_set (n := 3) (m := 3) (ad2 := ad2) (vb := ft_T ad2 k r2 b2) (by decide) (ft_T_c2 (ad := ad) (k := k) (r := (ft_cp r (b + 4) r2 (b2 + 4) 4)) (r2 := r2) (b := b) (b2 := b2)))
  have hP : va_P dC vwCl (ft_WT2 ad k (ft_cp (ft_cp r (b + 4) r2 (b2 + 4) 4) (b + 8) r2 (b2 + 8) 9) b ad2 r2 b2) H := hP
  have hD : va_D (ft_A 6 (ft_bl 3 ad ad2)) (ft_WT2 ad k (ft_cp (ft_cp r (b + 4) r2 (b2 + 4) 4) (b + 8) r2 (b2 + 8) 9) b ad2 r2 b2) := hD
  refine lv_aload_n hx hb dX6_copyFrom_29 rfl (lv_at hl 0 rfl) ?_
  refine lv_aload_n hx hb dX6_copyFrom_30 rfl (lv_at hl 1 rfl) ?_
  refine va_get (D := dC) (ci := 8) (v := .int (r2 (b2 + 2))) (C := RX6) (T := TX6) (N := 6) hx hb hts (by decide +kernel) hown hK.1 hP 3 (ft_get' (by decide) rfl) rfl 2 (by decide) (hts (.fieldLink RX6 24 "FoodTruckRota$Truck" "queued" "I") (by decide +kernel)) (fun _ h9 => h9) rfl dX6_copyFrom_31 ?_
  refine va_put (D := dC) (ci := 8) (v := .int (r2 (b2 + 2))) (ty := .int) (C := RX6) (T := TX6) (N := 6) hx hb hts (by decide +kernel) tyX6 tyX6_ok nmX6 hown hK.1 hP hD hS 0 (ft_get' (by decide) rfl) rfl 2 (by decide) (hts (.fieldLink RX6 24 "FoodTruckRota$Truck" "queued" "I") (by decide +kernel)) (fun _ h9 => h9) rfl (by decide +kernel) rfl rfl (Nat.le_of_ble_eq_true rfl) dX6_copyFrom_34 (fun H locs hP hD hS => ?_)
  have hP := ft_cast hP (ft_bl_set (n := 3) (m := 3) (ad2 := ad2) (vb := ft_T ad2 k r2 b2) (by decide) ft_T_p2)
  have hD := ft_castD hD (ft_bl_set (n := 3) (m := 3) (ad2 := ad2) (vb := ft_T ad2 k r2 b2) (by decide) ft_T_p2)
  have hP : va_P dC vwCl (ft_WT2 ad k (va_up (ft_cp (ft_cp r (b + 4) r2 (b2 + 4) 4) (b + 8) r2 (b2 + 8) 9) (b + 2) (r2 (b2 + 2))) b ad2 r2 b2) H := hP
  have hD : va_D (ft_A 6 (ft_bl 3 ad ad2)) (ft_WT2 ad k (va_up (ft_cp (ft_cp r (b + 4) r2 (b2 + 4) 4) (b + 8) r2 (b2 + 8) 9) (b + 2) (r2 (b2 + 2))) b ad2 r2 b2) := hD
  refine lv_aload_n hx hb dX6_copyFrom_37 rfl (lv_at hl 0 rfl) ?_
  refine lv_aload_n hx hb dX6_copyFrom_38 rfl (lv_at hl 1 rfl) ?_
  refine va_get (D := dC) (ci := 8) (v := .int (r2 (b2 + 1))) (C := RX6) (T := TX6) (N := 6) hx hb hts (by decide +kernel) hown hK.1 hP 3 (ft_get' (by decide) rfl) rfl 3 (by decide) (hts (.fieldLink RX6 28 "FoodTruckRota$Truck" "minutesToGo" "I") (by decide +kernel)) (fun _ h9 => h9) rfl dX6_copyFrom_39 ?_
  refine va_put (D := dC) (ci := 8) (v := .int (r2 (b2 + 1))) (ty := .int) (C := RX6) (T := TX6) (N := 6) hx hb hts (by decide +kernel) tyX6 tyX6_ok nmX6 hown hK.1 hP hD hS 0 (ft_get' (by decide) rfl) rfl 3 (by decide) (hts (.fieldLink RX6 28 "FoodTruckRota$Truck" "minutesToGo" "I") (by decide +kernel)) (fun _ h9 => h9) rfl (by decide +kernel) rfl rfl (Nat.le_of_ble_eq_true rfl) dX6_copyFrom_42 (fun H locs hP hD hS => ?_)
  have hP := ft_cast hP (ft_bl_set (n := 3) (m := 3) (ad2 := ad2) (vb := ft_T ad2 k r2 b2) (by decide) ft_T_p1)
  have hD := ft_castD hD (ft_bl_set (n := 3) (m := 3) (ad2 := ad2) (vb := ft_T ad2 k r2 b2) (by decide) ft_T_p1)
  have hP : va_P dC vwCl (ft_WT2 ad k (va_up (va_up (ft_cp (ft_cp r (b + 4) r2 (b2 + 4) 4) (b + 8) r2 (b2 + 8) 9) (b + 2) (r2 (b2 + 2))) (b + 1) (r2 (b2 + 1))) b ad2 r2 b2) H := hP
  have hD : va_D (ft_A 6 (ft_bl 3 ad ad2)) (ft_WT2 ad k (va_up (va_up (ft_cp (ft_cp r (b + 4) r2 (b2 + 4) 4) (b + 8) r2 (b2 + 8) 9) (b + 2) (r2 (b2 + 2))) (b + 1) (r2 (b2 + 1))) b ad2 r2 b2) := hD
  refine lv_aload_n hx hb dX6_copyFrom_45 rfl (lv_at hl 0 rfl) ?_
  refine lv_aload_n hx hb dX6_copyFrom_46 rfl (lv_at hl 1 rfl) ?_
  refine va_get (D := dC) (ci := 8) (v := .int (r2 (b2 + 0))) (C := RX6) (T := TX6) (N := 6) hx hb hts (by decide +kernel) hown hK.1 hP 3 (ft_get' (by decide) rfl) rfl 4 (by decide) (hts (.fieldLink RX6 31 "FoodTruckRota$Truck" "earned" "I") (by decide +kernel)) (fun _ h9 => h9) rfl dX6_copyFrom_47 ?_
  refine va_put (D := dC) (ci := 8) (v := .int (r2 (b2 + 0))) (ty := .int) (C := RX6) (T := TX6) (N := 6) hx hb hts (by decide +kernel) tyX6 tyX6_ok nmX6 hown hK.1 hP hD hS 0 (ft_get' (by decide) rfl) rfl 4 (by decide) (hts (.fieldLink RX6 31 "FoodTruckRota$Truck" "earned" "I") (by decide +kernel)) (fun _ h9 => h9) rfl (by decide +kernel) rfl rfl (Nat.le_of_ble_eq_true rfl) dX6_copyFrom_50 (fun H locs hP hD hS => ?_)
  have hP := ft_cast hP (ft_bl_set (n := 3) (m := 3) (ad2 := ad2) (vb := ft_T ad2 k r2 b2) (by decide) ft_T_p0)
  have hD := ft_castD hD (ft_bl_set (n := 3) (m := 3) (ad2 := ad2) (vb := ft_T ad2 k r2 b2) (by decide) ft_T_p0)
  have hP : va_P dC vwCl (ft_WT2 ad k (va_up (va_up (va_up (ft_cp (ft_cp r (b + 4) r2 (b2 + 4) 4) (b + 8) r2 (b2 + 8) 9) (b + 2) (r2 (b2 + 2))) (b + 1) (r2 (b2 + 1))) (b + 0) (r2 (b2 + 0))) b ad2 r2 b2) H := hP
  have hD : va_D (ft_A 6 (ft_bl 3 ad ad2)) (ft_WT2 ad k (va_up (va_up (va_up (ft_cp (ft_cp r (b + 4) r2 (b2 + 4) 4) (b + 8) r2 (b2 + 8) 9) (b + 2) (r2 (b2 + 2))) (b + 1) (r2 (b2 + 1))) (b + 0) (r2 (b2 + 0))) b ad2 r2 b2) := hD
  refine lv_aload_n hx hb dX6_copyFrom_53 rfl (lv_at hl 0 rfl) ?_
  refine lv_aload_n hx hb dX6_copyFrom_54 rfl (lv_at hl 1 rfl) ?_
  refine va_get (D := dC) (ci := 8) (v := .int (r2 (b2 + 3))) (C := RX6) (T := TX6) (N := 6) hx hb hts (by decide +kernel) hown hK.1 hP 3 (ft_get' (by decide) rfl) rfl 5 (by decide) (hts (.fieldLink RX6 34 "FoodTruckRota$Truck" "permitBits" "I") (by decide +kernel)) (fun _ h9 => h9) rfl dX6_copyFrom_55 ?_
  refine va_put (D := dC) (ci := 8) (v := .int (r2 (b2 + 3))) (ty := .int) (C := RX6) (T := TX6) (N := 6) hx hb hts (by decide +kernel) tyX6 tyX6_ok nmX6 hown hK.1 hP hD hS 0 (ft_get' (by decide) rfl) rfl 5 (by decide) (hts (.fieldLink RX6 34 "FoodTruckRota$Truck" "permitBits" "I") (by decide +kernel)) (fun _ h9 => h9) rfl (by decide +kernel) rfl rfl (Nat.le_of_ble_eq_true rfl) dX6_copyFrom_58 (fun H locs hP hD hS => ?_)
  have hP := ft_cast hP (ft_bl_set (n := 3) (m := 3) (ad2 := ad2) (vb := ft_T ad2 k r2 b2) (by decide) ft_T_p3)
  have hD := ft_castD hD (ft_bl_set (n := 3) (m := 3) (ad2 := ad2) (vb := ft_T ad2 k r2 b2) (by decide) ft_T_p3)
  have hP : va_P dC vwCl (ft_WT2 ad k (va_up (va_up (va_up (va_up (ft_cp (ft_cp r (b + 4) r2 (b2 + 4) 4) (b + 8) r2 (b2 + 8) 9) (b + 2) (r2 (b2 + 2))) (b + 1) (r2 (b2 + 1))) (b + 0) (r2 (b2 + 0))) (b + 3) (r2 (b2 + 3))) b ad2 r2 b2) H := hP
  have hD : va_D (ft_A 6 (ft_bl 3 ad ad2)) (ft_WT2 ad k (va_up (va_up (va_up (va_up (ft_cp (ft_cp r (b + 4) r2 (b2 + 4) 4) (b + 8) r2 (b2 + 8) 9) (b + 2) (r2 (b2 + 2))) (b + 1) (r2 (b2 + 1))) (b + 0) (r2 (b2 + 0))) (b + 3) (r2 (b2 + 3))) b ad2 r2 b2) := hD
  exact W.vret hx hb hr (fun t ht hW => ⟨⟨(va_up (va_up (va_up (va_up (ft_cp (ft_cp r (b + 4) r2 (b2 + 4) 4) (b + 8) r2 (b2 + 8) 9) (b + 2) (r2 (b2 + 2))) (b + 1) (r2 (b2 + 1))) (b + 0) (r2 (b2 + 0))) (b + 3) (r2 (b2 + 3))), rfl, hsp, ft_heap ht hP⟩, hS.F ht⟩) hS.2.2 dX6_copyFrom_61
