theorem in_ofz {p : Prop} (h : ¬ (0 : Int32) = 0) : p := absurd rfl h
theorem hold_in {x y : Int32} (h1 : vp_in x 5) (h2 : vp_in y 7) : vp_in (x * 7 + y) 35 := by
  obtain ⟨i, hi, rfl⟩ := vp_in_of h1 (by decide)
  obtain ⟨j, hj, rfl⟩ := vp_in_of h2 (by decide)
  rw [show (7 : Int32) = nI 7 from rfl, pk_mul, nI_add]
  exact vp_in_nI (by omega) (by decide)
theorem ft_vin2 {v bnd n : Int32} {i : Nat} (hi : v = nI i) (hlt : i + 1 ≤ tn bnd) (h : ¬ n ≤ v) : vp_in v (tn n) := by
  refine in_of2' ?_ h
  subst hi
  exact nI_pos (by have h1 : bnd.toInt < 2 ^ 31 := Int32.toInt_lt bnd; have h2 : tn bnd = bnd.toInt.toNat := rfl; omega)
theorem isPitch_in {x : Int32} (h : ¬ s_X7_isPitch x = 0) : vp_in x 5 := by
  unfold s_X7_isPitch at h
  split at h
  · exact absurd rfl h
  · split at h
    · exact absurd rfl h
    · exact in_of2' (by assumption) (by assumption)
theorem isWeekday_in {x : Int32} (h : ¬ s_X7_isWeekday x = 0) : vp_in x 7 := by
  unfold s_X7_isWeekday at h
  split at h
  · exact absurd rfl h
  · split at h
    · exact absurd rfl h
    · exact in_of2' (by assumption) (by assumption)

def s_X4_isTruck (r : Nat → Int32) (x1 : Int32) : Int32 := if x1 < 0 then (0) else (if (r 0) ≤ x1 then (0) else (if 6 ≤ x1 then (0) else (1)))
set_option maxHeartbeats 4000000 in
set_option maxRecDepth 100000 in
theorem c_X4_isTruck (l : Launch) (dC : va_G) (ad : Nat → Nat) (k : Nat → ClassId) (r : Nat → Int32) (x1 : Int32) : Met l yX4_isTruck wsX4_isTruck ({ frames := 0, cells := 0, slots := 0, locals := 0 }) (ft_Pc dC k [.ref (ad 0), .int x1] (ft_WS ad k r)) (vp_Si (fun z : Int32 => z = s_X4_isTruck r x1)) 0 0 (fun _ => False) := by
  refine Met.ofW (cc := cX4_isTruck) (maxL := 2) (ret := (some .boolean)) (by decide) rfl ?_
  intro p e s m args below meth c s₁ B hml hv
  obtain ⟨hargs, hP, hK⟩ := hv
  subst hargs
  have hx := B.exec
  have hb := B.bytes
  have hr := B.returns
  have hts := atoms_spec (ws := wsX4_isTruck) B.pre
  have hown : s.vm.findClass RX4 = some m.cls := findClass_of_methodNamed B.named
  have hlocks := B.notSynchronized
  have hl := lv_entry ([.ref (ad 0), .int x1]) (n := 2) (Nat.le_of_ble_eq_true rfl)
  rw [lg_entry_eq]
  generalize (lg_sl ([.ref (ad 0), .int x1]) ++ List.replicate (2 - (lg_sl ([.ref (ad 0), .int x1])).length) Slot.unset).toArray = ls at hl ⊢
  have hl : lv_has ls 2 [(0, .ref (ad 0)), (1, .int (x1))] := hl
  have hsp := (s_X4_isTruck.eq_1 r x1).symm
  refine lv_iload_n hx hb dX4_isTruck_0 rfl (lv_at hl 1 rfl) ?_
  refine lv_if_lt (tgt := 22) hx hb dX4_isTruck_1 (by decide) (fun c_1 => ?_) (fun c_1 => ?_)
  · replace hsp := (if_pos c_1).symm.trans hsp
    refine lv_iconst (v := 0) hx hb dX4_isTruck_22 (by decide) ?_
    exact W.zret (v := 0) hx hb hr (rfl) (fun t ht hW => ft_endi (post := fun z : Int32 => z = s_X4_isTruck r x1) hsp ht) (fun _ h => absurd h List.not_mem_nil) dX4_isTruck_23
  · replace hsp := (if_neg c_1).symm.trans hsp
    refine lv_iload_n hx hb dX4_isTruck_4 rfl (lv_at hl 1 rfl) ?_
    refine lv_aload_n hx hb dX4_isTruck_5 rfl (lv_at hl 0 rfl) ?_
    refine va_get (D := dC) (ci := 6) (v := .int (r 0)) (C := RX4) (T := TX4) (N := 12) hx hb hts (by decide +kernel) hown hK.1 hP 0 (ft_get' (by decide) rfl) rfl 4 (by decide) (hts (.fieldLink RX4 48 "FoodTruckRota$Square" "truckTotal" "I") (by decide +kernel)) (fun _ h9 => h9) rfl dX4_isTruck_6 ?_
    refine lv_icmp_ge (tgt := 22) hx hb dX4_isTruck_9 (by decide) (fun c_9 => ?_) (fun c_9 => ?_)
    · replace hsp := (if_pos c_9).symm.trans hsp
      refine lv_iconst (v := 0) hx hb dX4_isTruck_22 (by decide) ?_
      exact W.zret (v := 0) hx hb hr (rfl) (fun t ht hW => ft_endi (post := fun z : Int32 => z = s_X4_isTruck r x1) hsp ht) (fun _ h => absurd h List.not_mem_nil) dX4_isTruck_23
    · replace hsp := (if_neg c_9).symm.trans hsp
      refine lv_iload_n hx hb dX4_isTruck_12 rfl (lv_at hl 1 rfl) ?_
      refine lv_bipush (v := 6) hx hb dX4_isTruck_13 (by decide) ?_
      refine lv_icmp_ge (tgt := 22) hx hb dX4_isTruck_15 (by decide) (fun c_15 => ?_) (fun c_15 => ?_)
      · replace hsp := (if_pos c_15).symm.trans hsp
        refine lv_iconst (v := 0) hx hb dX4_isTruck_22 (by decide) ?_
        exact W.zret (v := 0) hx hb hr (rfl) (fun t ht hW => ft_endi (post := fun z : Int32 => z = s_X4_isTruck r x1) hsp ht) (fun _ h => absurd h List.not_mem_nil) dX4_isTruck_23
      · replace hsp := (if_neg c_15).symm.trans hsp
        refine lv_iconst (v := 1) hx hb dX4_isTruck_18 (by decide) ?_
        refine lv_goto (tgt := 23) hx hb dX4_isTruck_19 (by decide) ?_
        exact W.zret (v := 1) hx hb hr (rfl) (fun t ht hW => ft_endi (post := fun z : Int32 => z = s_X4_isTruck r x1) hsp ht) (fun _ h => absurd h List.not_mem_nil) dX4_isTruck_23

def s_X4_isWait  (x1 : Int32) : Int32 := if x1 < 1 then (0) else (if 60 < x1 then (0) else (1))
set_option maxHeartbeats 4000000 in
set_option maxRecDepth 100000 in
theorem c_X4_isWait (l : Launch)  (x1 : Int32) : Met l yX4_isWait wsX4_isWait ({ frames := 0, cells := 0, slots := 0, locals := 0 }) (ft_Pn [.int x1]) (vp_Si (fun z : Int32 => z = s_X4_isWait x1)) 0 0 (fun _ => False) := by
  refine Met.ofW (cc := cX4_isWait) (maxL := 1) (ret := (some .boolean)) (by decide) rfl ?_
  intro p e s m args below meth c s₁ B hml hv
  obtain ⟨hargs, -⟩ := hv
  subst hargs
  have hx := B.exec
  have hb := B.bytes
  have hr := B.returns
  have hts := atoms_spec (ws := wsX4_isWait) B.pre
  have hown : s.vm.findClass RX4 = some m.cls := findClass_of_methodNamed B.named
  have hlocks := B.notSynchronized
  have hl := lv_entry ([.int x1]) (n := 1) (Nat.le_of_ble_eq_true rfl)
  rw [lg_entry_eq]
  generalize (lg_sl ([.int x1]) ++ List.replicate (1 - (lg_sl ([.int x1])).length) Slot.unset).toArray = ls at hl ⊢
  have hl : lv_has ls 1 [(0, .int (x1))] := hl
  have hsp := (s_X4_isWait.eq_1  x1).symm
  refine lv_iload_n hx hb dX4_isWait_0 rfl (lv_at hl 0 rfl) ?_
  refine lv_iconst (v := 1) hx hb dX4_isWait_1 (by decide) ?_
  refine lv_icmp_lt (tgt := 15) hx hb dX4_isWait_2 (by decide) (fun c_2 => ?_) (fun c_2 => ?_)
  · replace hsp := (if_pos c_2).symm.trans hsp
    refine lv_iconst (v := 0) hx hb dX4_isWait_15 (by decide) ?_
    exact W.zret (v := 0) hx hb hr (rfl) (fun t ht hW => ft_endi (post := fun z : Int32 => z = s_X4_isWait x1) hsp ht) (fun _ h => absurd h List.not_mem_nil) dX4_isWait_16
  · replace hsp := (if_neg c_2).symm.trans hsp
    refine lv_iload_n hx hb dX4_isWait_5 rfl (lv_at hl 0 rfl) ?_
    refine lv_bipush (v := 60) hx hb dX4_isWait_6 (by decide) ?_
    refine lv_icmp_gt (tgt := 15) hx hb dX4_isWait_8 (by decide) (fun c_8 => ?_) (fun c_8 => ?_)
    · replace hsp := (if_pos c_8).symm.trans hsp
      refine lv_iconst (v := 0) hx hb dX4_isWait_15 (by decide) ?_
      exact W.zret (v := 0) hx hb hr (rfl) (fun t ht hW => ft_endi (post := fun z : Int32 => z = s_X4_isWait x1) hsp ht) (fun _ h => absurd h List.not_mem_nil) dX4_isWait_16
    · replace hsp := (if_neg c_8).symm.trans hsp
      refine lv_iconst (v := 1) hx hb dX4_isWait_11 (by decide) ?_
      refine lv_goto (tgt := 16) hx hb dX4_isWait_12 (by decide) ?_
      exact W.zret (v := 1) hx hb hr (rfl) (fun t ht hW => ft_endi (post := fun z : Int32 => z = s_X4_isWait x1) hsp ht) (fun _ h => absurd h List.not_mem_nil) dX4_isWait_16

theorem isTruck_in {r : Nat → Int32} {x : Int32} (h : ¬ s_X4_isTruck r x = 0) : vp_in x 6 := by
  unfold s_X4_isTruck at h
  split at h
  · exact absurd rfl h
  · split at h
    · exact absurd rfl h
    · split at h
      · exact absurd rfl h
      · exact in_of2' (by assumption) (by assumption)

def s_X4_holderOf (r : Nat → Int32) (x1 : Int32) (x2 : Int32) : Int32 := if x1 < 0 then ((-1)) else (if 5 ≤ x1 then ((-1)) else (if x2 < 0 then ((-1)) else (if x2 < 7 then (ft_ar r (16) 35 (tn ((x1 * 7) + x2))) else ((-1)))))
set_option maxHeartbeats 4000000 in
set_option maxRecDepth 100000 in
theorem c_X4_holderOf (l : Launch) (dC : va_G) (ad : Nat → Nat) (k : Nat → ClassId) (r : Nat → Int32) (x1 : Int32) (x2 : Int32) : Met l yX4_holderOf wsX4_holderOf ({ frames := 0, cells := 0, slots := 0, locals := 0 }) (ft_Pc dC k [.ref (ad 0), .int x1, .int x2] (ft_WS ad k r)) (vp_Si (fun z : Int32 => z = s_X4_holderOf r x1 x2)) 0 0 (fun _ => False) := by
  refine Met.ofW (cc := cX4_holderOf) (maxL := 3) (ret := (some .int)) (by decide) rfl ?_
  intro p e s m args below meth c s₁ B hml hv
  obtain ⟨hargs, hP, hK⟩ := hv
  subst hargs
  have hx := B.exec
  have hb := B.bytes
  have hr := B.returns
  have hts := atoms_spec (ws := wsX4_holderOf) B.pre
  have hown : s.vm.findClass RX4 = some m.cls := findClass_of_methodNamed B.named
  have hlocks := B.notSynchronized
  have hl := lv_entry ([.ref (ad 0), .int x1, .int x2]) (n := 3) (Nat.le_of_ble_eq_true rfl)
  rw [lg_entry_eq]
  generalize (lg_sl ([.ref (ad 0), .int x1, .int x2]) ++ List.replicate (3 - (lg_sl ([.ref (ad 0), .int x1, .int x2])).length) Slot.unset).toArray = ls at hl ⊢
  have hl : lv_has ls 3 [(0, .ref (ad 0)), (1, .int (x1)), (2, .int (x2))] := hl
  have hsp := (s_X4_holderOf.eq_1 r x1 x2).symm
  refine lv_iload_n hx hb dX4_holderOf_0 rfl (lv_at hl 1 rfl) ?_
  refine lv_if_lt (tgt := 19) hx hb dX4_holderOf_1 (by decide) (fun c_1 => ?_) (fun c_1 => ?_)
  · replace hsp := (if_pos c_1).symm.trans hsp
    refine lv_iconst (v := (-1)) hx hb dX4_holderOf_19 (by decide) ?_
    exact W.iret (v := (-1)) hx hb hr (fun t ht hW => ft_endi (post := fun z : Int32 => z = s_X4_holderOf r x1 x2) hsp ht) (fun _ h => absurd h List.not_mem_nil) dX4_holderOf_20
  · replace hsp := (if_neg c_1).symm.trans hsp
    refine lv_iload_n hx hb dX4_holderOf_4 rfl (lv_at hl 1 rfl) ?_
    refine lv_iconst (v := 5) hx hb dX4_holderOf_5 (by decide) ?_
    refine lv_icmp_ge (tgt := 19) hx hb dX4_holderOf_6 (by decide) (fun c_6 => ?_) (fun c_6 => ?_)
    · replace hsp := (if_pos c_6).symm.trans hsp
      refine lv_iconst (v := (-1)) hx hb dX4_holderOf_19 (by decide) ?_
      exact W.iret (v := (-1)) hx hb hr (fun t ht hW => ft_endi (post := fun z : Int32 => z = s_X4_holderOf r x1 x2) hsp ht) (fun _ h => absurd h List.not_mem_nil) dX4_holderOf_20
    · replace hsp := (if_neg c_6).symm.trans hsp
      refine lv_iload_n hx hb dX4_holderOf_9 rfl (lv_at hl 2 rfl) ?_
      refine lv_if_lt (tgt := 19) hx hb dX4_holderOf_10 (by decide) (fun c_10 => ?_) (fun c_10 => ?_)
      · replace hsp := (if_pos c_10).symm.trans hsp
        refine lv_iconst (v := (-1)) hx hb dX4_holderOf_19 (by decide) ?_
        exact W.iret (v := (-1)) hx hb hr (fun t ht hW => ft_endi (post := fun z : Int32 => z = s_X4_holderOf r x1 x2) hsp ht) (fun _ h => absurd h List.not_mem_nil) dX4_holderOf_20
      · replace hsp := (if_neg c_10).symm.trans hsp
        refine lv_iload_n hx hb dX4_holderOf_13 rfl (lv_at hl 2 rfl) ?_
        refine lv_bipush (v := 7) hx hb dX4_holderOf_14 (by decide) ?_
        refine lv_icmp_lt (tgt := 21) hx hb dX4_holderOf_16 (by decide) (fun c_16 => ?_) (fun c_16 => ?_)
        · replace hsp := (if_pos c_16).symm.trans hsp
          refine lv_aload_n hx hb dX4_holderOf_21 rfl (lv_at hl 0 rfl) ?_
          refine va_get (D := dC) (ci := 6) (v := .ref (ad 2)) (C := RX4) (T := TX4) (N := 12) hx hb hts (by decide +kernel) hown hK.1 hP 0 (ft_get' (by decide) rfl) rfl 1 (by decide) (hts (.fieldLink RX4 17 "FoodTruckRota$Square" "holders" "[I") (by decide +kernel)) (fun _ h9 => h9) rfl dX4_holderOf_22 ?_
          refine lv_iload_n hx hb dX4_holderOf_25 rfl (lv_at hl 1 rfl) ?_
          refine lv_bipush (v := 7) hx hb dX4_holderOf_26 (by decide) ?_
          refine lv_imul hx hb dX4_holderOf_28 ?_
          refine lv_iload_n hx hb dX4_holderOf_29 rfl (lv_at hl 2 rfl) ?_
          refine lv_iadd hx hb dX4_holderOf_30 ?_
          have h_31 : vp_in ((x1 * 7) + x2) 35 := by exact hold_in (in_of2' c_1 c_6) (in_of2 c_10 c_16)
          refine va_iald hx hb hK.1 hP 2 0 (ft_get' (by decide) rfl) rfl h_31 dX4_holderOf_31 ?_
          exact W.iret (v := ft_ar r (16) 35 (tn ((x1 * 7) + x2))) hx hb hr (fun t ht hW => ft_endi (post := fun z : Int32 => z = s_X4_holderOf r x1 x2) hsp ht) (fun _ h => absurd h List.not_mem_nil) dX4_holderOf_32
        · replace hsp := (if_neg c_16).symm.trans hsp
          refine lv_iconst (v := (-1)) hx hb dX4_holderOf_19 (by decide) ?_
          exact W.iret (v := (-1)) hx hb hr (fun t ht hW => ft_endi (post := fun z : Int32 => z = s_X4_holderOf r x1 x2) hsp ht) (fun _ h => absurd h List.not_mem_nil) dX4_holderOf_20

def s_X4_setHolder (r : Nat → Int32) (x1 : Int32) (x2 : Int32) (x3 : Int32) : (Nat → Int32) := if (s_X7_isPitch x1) = 0 then (r) else (if (s_X7_isWeekday x2) = 0 then (r) else (va_up r (16 + tn ((x1 * 7) + x2)) x3))
set_option maxHeartbeats 4000000 in
set_option maxRecDepth 100000 in
theorem c_X4_setHolder (l : Launch) (dC : va_G) (ad : Nat → Nat) (k : Nat → ClassId) (r : Nat → Int32) (x1 : Int32) (x2 : Int32) (x3 : Int32) : Met l yX4_setHolder wsX4_setHolder ({ frames := 1, cells := 0, slots := 0, locals := 20 }) (ft_Pd dC k [.ref (ad 0), .int x1, .int x2, .int x3] (ft_WS ad k r)) (va_Qv (fun u : Nat → Int32 => u = s_X4_setHolder r x1 x2 x3) (fun (u : Nat → Int32) (t : State) => va_P dC vwCl (ft_WS ad k u) t.heap) (ft_A 23 ad)) 0 0 (ft_A 23 ad) := by
  refine Met.ofW (cc := cX4_setHolder) (maxL := 4) (ret := none) (by decide) rfl ?_
  intro p e s m args below meth c s₁ B hml hv
  obtain ⟨hargs, hP, hK, hD0⟩ := hv
  subst hargs
  have hx := B.exec
  have hb := B.bytes
  have hr := B.returns
  have hts := atoms_spec (ws := wsX4_setHolder) B.pre
  have hown : s.vm.findClass RX4 = some m.cls := findClass_of_methodNamed B.named
  have hlocks := B.notSynchronized
  have hD := ft_D_self hD0
  have hS : va_S (ft_A 23 ad) s.heap s.heap [] := va_S.rf
  have hl := lv_entry ([.ref (ad 0), .int x1, .int x2, .int x3]) (n := 4) (Nat.le_of_ble_eq_true rfl)
  rw [lg_entry_eq]
  generalize (lg_sl ([.ref (ad 0), .int x1, .int x2, .int x3]) ++ List.replicate (4 - (lg_sl ([.ref (ad 0), .int x1, .int x2, .int x3])).length) Slot.unset).toArray = ls at hl ⊢
  have hl : lv_has ls 4 [(0, .ref (ad 0)), (1, .int (x1)), (2, .int (x2)), (3, .int (x3))] := hl
  have hsp := (s_X4_setHolder.eq_1 r x1 x2 x3).symm
  refine lv_iload_n hx hb dX4_setHolder_0 rfl (lv_at hl 1 rfl) ?_
  refine vp_callSi (va_Run.run (va_runSN (As := [.int (x1)]) (rest := []) ⟨hx, hb, hml, hown, hts⟩ (c_X7_isPitch l x1) ⟨va_cnB 1 hts ggX4_setHolder_X7_isPitch rfl rfl rfl (ft_nm hK.2 5 rfl) (hts (.initialized RX7) (by decide +kernel)) (by decide +kernel) ⟨Nat.le_of_ble_eq_true rfl, Nat.le_of_ble_eq_true rfl⟩, hts (.static yX7_isPitch) (by decide +kernel), trivial⟩ ft_preSn rfl rfl hl.1 rfl (lv_room (Nat.le_of_ble_eq_true rfl)) dX4_setHolder_1 ⟨Nat.le_of_ble_eq_true rfl, Nat.le_of_ble_eq_true rfl⟩)) (fun z hz => ?_)
  subst hz
  refine lv_if_eq (tgt := 26) hx hb dX4_setHolder_4 (by decide) (fun c_4 => ?_) (fun c_4 => ?_)
  · replace hsp := (if_pos c_4).symm.trans hsp
    exact W.vret hx hb hr (fun t ht hW => ⟨⟨r, rfl, hsp, ft_heap ht hP⟩, hS.F ht⟩) hS.2.2 dX4_setHolder_26
  · replace hsp := (if_neg c_4).symm.trans hsp
    refine lv_iload_n hx hb dX4_setHolder_7 rfl (lv_at hl 2 rfl) ?_
    refine vp_callSi (va_Run.run (va_runSN (As := [.int (x2)]) (rest := []) ⟨hx, hb, hml, hown, hts⟩ (c_X7_isWeekday l x2) ⟨va_cnB 1 hts ggX4_setHolder_X7_isWeekday rfl rfl rfl (ft_nm hK.2 3 rfl) (hts (.initialized RX7) (by decide +kernel)) (by decide +kernel) ⟨Nat.le_of_ble_eq_true rfl, Nat.le_of_ble_eq_true rfl⟩, hts (.static yX7_isWeekday) (by decide +kernel), trivial⟩ ft_preSn rfl rfl hl.1 rfl (lv_room (Nat.le_of_ble_eq_true rfl)) dX4_setHolder_8 ⟨Nat.le_of_ble_eq_true rfl, Nat.le_of_ble_eq_true rfl⟩)) (fun z hz => ?_)
    subst hz
    refine lv_if_eq (tgt := 26) hx hb dX4_setHolder_11 (by decide) (fun c_11 => ?_) (fun c_11 => ?_)
    · replace hsp := (if_pos c_11).symm.trans hsp
      exact W.vret hx hb hr (fun t ht hW => ⟨⟨r, rfl, hsp, ft_heap ht hP⟩, hS.F ht⟩) hS.2.2 dX4_setHolder_26
    · replace hsp := (if_neg c_11).symm.trans hsp
      refine lv_aload_n hx hb dX4_setHolder_14 rfl (lv_at hl 0 rfl) ?_
      refine va_get (D := dC) (ci := 6) (v := .ref (ad 2)) (C := RX4) (T := TX4) (N := 12) hx hb hts (by decide +kernel) hown hK.1 hP 0 (ft_get' (by decide) rfl) rfl 1 (by decide) (hts (.fieldLink RX4 17 "FoodTruckRota$Square" "holders" "[I") (by decide +kernel)) (fun _ h9 => h9) rfl dX4_setHolder_15 ?_
      refine lv_iload_n hx hb dX4_setHolder_18 rfl (lv_at hl 1 rfl) ?_
      refine lv_bipush (v := 7) hx hb dX4_setHolder_19 (by decide) ?_
      refine lv_imul hx hb dX4_setHolder_21 ?_
      refine lv_iload_n hx hb dX4_setHolder_22 rfl (lv_at hl 2 rfl) ?_
      refine lv_iadd hx hb dX4_setHolder_23 ?_
      refine lv_iload_n hx hb dX4_setHolder_24 rfl (lv_at hl 3 rfl) ?_
      have h_25 : vp_in ((x1 * 7) + x2) 35 := by exact hold_in (isPitch_in c_4) (isWeekday_in c_11)
      refine va_iast hx hb hK.1 hP hD hS 2 0 (ft_get' (by decide) rfl) rfl h_25 dX4_setHolder_25 (fun H locs hP hD hS => ?_)
      have hP := ft_cast hP (ft_S_ah (ft_tn h_25))
      have hD := ft_castD hD (ft_S_ah (ft_tn h_25))
      have hP : va_P dC vwCl (ft_WS ad k (va_up r (16 + tn ((x1 * 7) + x2)) x3)) H := hP
      have hD : va_D (ft_A 23 ad) (ft_WS ad k (va_up r (16 + tn ((x1 * 7) + x2)) x3)) := hD
      exact W.vret hx hb hr (fun t ht hW => ⟨⟨(va_up r (16 + tn ((x1 * 7) + x2)) x3), rfl, hsp, ft_heap ht hP⟩, hS.F ht⟩) hS.2.2 dX4_setHolder_26

def s_X4_pitchHeldBy_L2 (r : Nat → Int32) (x1 : Int32) (x2 : Int32) (K : Int32 → Int32) : Nat → Int32 → Int32
  | 0, y3_2 => K y3_2
  | n + 1, y3_2 => if 5 ≤ y3_2 then (K y3_2) else (if (s_X4_holderOf r y3_2 x2) = x1 then (y3_2) else (s_X4_pitchHeldBy_L2 r x1 x2 K n (y3_2 + 1)))
def s_X4_pitchHeldBy (r : Nat → Int32) (x1 : Int32) (x2 : Int32) : Int32 := s_X4_pitchHeldBy_L2 r x1 x2 (fun y3_2 => (-1)) (tn 5 + 1) 0
set_option maxHeartbeats 4000000 in
set_option maxRecDepth 100000 in
theorem c_X4_pitchHeldBy (l : Launch) (dC : va_G) (ad : Nat → Nat) (k : Nat → ClassId) (r : Nat → Int32) (x1 : Int32) (x2 : Int32) : Met l yX4_pitchHeldBy wsX4_pitchHeldBy ({ frames := 1, cells := 0, slots := 0, locals := 22 }) (ft_Pc dC k [.ref (ad 0), .int x1, .int x2] (ft_WS ad k r)) (vp_Si (fun z : Int32 => z = s_X4_pitchHeldBy r x1 x2)) 0 0 (fun _ => False) := by
  refine Met.ofW (cc := cX4_pitchHeldBy) (maxL := 4) (ret := (some .int)) (by decide) rfl ?_
  intro p e s m args below meth c s₁ B hml hv
  obtain ⟨hargs, hP, hK⟩ := hv
  subst hargs
  have hx := B.exec
  have hb := B.bytes
  have hr := B.returns
  have hts := atoms_spec (ws := wsX4_pitchHeldBy) B.pre
  have hown : s.vm.findClass RX4 = some m.cls := findClass_of_methodNamed B.named
  have hlocks := B.notSynchronized
  have hl := lv_entry ([.ref (ad 0), .int x1, .int x2]) (n := 4) (Nat.le_of_ble_eq_true rfl)
  rw [lg_entry_eq]
  generalize (lg_sl ([.ref (ad 0), .int x1, .int x2]) ++ List.replicate (4 - (lg_sl ([.ref (ad 0), .int x1, .int x2])).length) Slot.unset).toArray = ls at hl ⊢
  have hl : lv_has ls 4 [(0, .ref (ad 0)), (1, .int (x1)), (2, .int (x2))] := hl
  have hsp := (s_X4_pitchHeldBy.eq_1 r x1 x2).symm
  refine lv_iconst (v := 0) hx hb dX4_pitchHeldBy_0 (by decide) ?_
  refine lv_istore_n (lv' := [(3, .int (0)), (0, .ref (ad 0)), (1, .int (x1)), (2, .int (x2))]) hx hb dX4_pitchHeldBy_1 rfl hl (by decide) rfl (fun ls hl => ?_)
  have loop_2 : ∀ (K : Int32 → Int32) (hKx : ∀ (y3_2 : Int32) (i_2 : Nat) (hi_2 : y3_2 = nI i_2) (hm_2 : i_2 ≤ tn 5) (ls : Array Slot) (hl : lv_has ls 4 [(3, .int (y3_2)), (0, .ref (ad 0)), (1, .int (x1)), (2, .int (x2))]) (hsp : K y3_2 = s_X4_pitchHeldBy r x1 x2), W p l e (headSpec wsX4_pitchHeldBy ({ frames := 1, cells := 0, slots := 0, locals := 22 })).room s m ([.ref (ad 0), .int x1, .int x2] : List Value).toArray below meth c s.heap [] 0 0 (MQ below (vp_Si (fun z : Int32 => z = s_X4_pitchHeldBy r x1 x2)) ([.ref (ad 0), .int x1, .int x2] : List Value).toArray s 0 0 (fun _ => False)) (F0 m 25 ls [])) (n_2 : Nat), ∀ (y3_2 : Int32) (i_2 : Nat) (hi_2 : y3_2 = nI i_2) (hm_2 : i_2 ≤ tn 5) (hn_2 : tn 5 < n_2 + i_2) (ls : Array Slot) (hl : lv_has ls 4 [(3, .int (y3_2)), (0, .ref (ad 0)), (1, .int (x1)), (2, .int (x2))]) (hsp : s_X4_pitchHeldBy_L2 r x1 x2 K n_2 y3_2 = s_X4_pitchHeldBy r x1 x2), W p l e (headSpec wsX4_pitchHeldBy ({ frames := 1, cells := 0, slots := 0, locals := 22 })).room s m ([.ref (ad 0), .int x1, .int x2] : List Value).toArray below meth c s.heap [] 0 0 (MQ below (vp_Si (fun z : Int32 => z = s_X4_pitchHeldBy r x1 x2)) ([.ref (ad 0), .int x1, .int x2] : List Value).toArray s 0 0 (fun _ => False)) (F0 m 2 ls []) := by
    intro K hKx n_2
    induction n_2 with
    | zero => intro y3_2 i_2 hi_2 hm_2 hn_2; exact absurd hn_2 (by omega)
    | succ n ih_2 =>
      intro y3_2 i_2 hi_2 hm_2 hn_2 ls hl hsp
      rw [s_X4_pitchHeldBy_L2] at hsp
      refine lv_iload_n hx hb dX4_pitchHeldBy_2 rfl (lv_at hl 0 rfl) ?_
      refine lv_iconst (v := 5) hx hb dX4_pitchHeldBy_3 (by decide) ?_
      refine lv_icmp_ge (tgt := 25) hx hb dX4_pitchHeldBy_4 (by decide) (fun c_4 => ?_) (fun c_4 => ?_)
      · replace hsp := (if_pos c_4).symm.trans hsp
        exact hKx y3_2 i_2 hi_2 hm_2 ls (lv_sub hl [0, 1, 2, 3] rfl) hsp
      · replace hsp := (if_neg c_4).symm.trans hsp
        have hlt_2 := ft_step hi_2 hm_2 c_4
        refine lv_aload_n hx hb dX4_pitchHeldBy_7 rfl (lv_at hl 1 rfl) ?_
        refine lv_iload_n hx hb dX4_pitchHeldBy_8 rfl (lv_at hl 0 rfl) ?_
        refine lv_iload_n hx hb dX4_pitchHeldBy_9 rfl (lv_at hl 3 rfl) ?_
        refine vp_callSi (va_Run.run (va_runV (As := [.int (y3_2), .int (x2)]) (rest := []) ⟨hx, hb, hml, hown, hts⟩ (c_X4_holderOf l dC ad k r y3_2 x2) (cwV 2 hts gX4_pitchHeldBy_X4_holderOf rfl rfl rfl (by decide +kernel) ⟨Nat.le_of_ble_eq_true rfl, Nat.le_of_ble_eq_true rfl⟩) (ft_preVc hK hP (ci := 6) rfl (ft_get' (by decide) rfl)) rfl rfl hl.1 rfl (lv_room (Nat.le_of_ble_eq_true rfl)) dX4_pitchHeldBy_10 ⟨Nat.le_of_ble_eq_true rfl, Nat.le_of_ble_eq_true rfl⟩)) (fun z hz => ?_)
        subst hz
        refine lv_iload_n hx hb dX4_pitchHeldBy_13 rfl (lv_at hl 2 rfl) ?_
        refine lv_icmp_ne (tgt := 19) hx hb dX4_pitchHeldBy_14 (by decide) (fun c_14 => ?_) (fun c_14 => ?_)
        · replace hsp := (if_neg c_14).symm.trans hsp
          refine lv_iinc (v := y3_2 + 1) (lv' := [(3, .int (y3_2 + 1)), (0, .ref (ad 0)), (1, .int (x1)), (2, .int (x2))]) hx hb dX4_pitchHeldBy_19 hl (k := 0) rfl rfl (by decide) rfl (fun ls hl => ?_)
          refine lv_goto (tgt := 2) hx hb dX4_pitchHeldBy_22 (by decide) ?_
          exact ih_2 (y3_2 + 1) (i_2 + 1) (by rw [hi_2, nI_1]) hlt_2 (by omega) ls (lv_sub hl [0, 1, 2, 3] rfl) hsp
        · replace hsp := (if_pos c_14).symm.trans hsp
          refine lv_iload_n hx hb dX4_pitchHeldBy_17 rfl (lv_at hl 0 rfl) ?_
          exact W.iret (v := y3_2) hx hb hr (fun t ht hW => ft_endi (post := fun z : Int32 => z = s_X4_pitchHeldBy r x1 x2) hsp ht) (fun _ h => absurd h List.not_mem_nil) dX4_pitchHeldBy_18
  refine loop_2 _ (fun y3_2 i_2 hi_2 hm_2 ls hl hsp => ?_) (tn 5 + 1) 0 0 rfl (by omega) (by omega) ls (lv_sub hl [0, 1, 2, 3] rfl) hsp
  refine lv_iconst (v := (-1)) hx hb dX4_pitchHeldBy_25 (by decide) ?_
  exact W.iret (v := (-1)) hx hb hr (fun t ht hW => ft_endi (post := fun z : Int32 => z = s_X4_pitchHeldBy r x1 x2) hsp ht) (fun _ h => absurd h List.not_mem_nil) dX4_pitchHeldBy_26

def s_J9_floorMod_7cf53  (x1 : Int32) (x2 : Int32) : Int32 := if 0 ≤ (x1 ^^^ x2) then (x1 - x1 / x2 * x2) else (if (x1 - x1 / x2 * x2) = 0 then (x1 - x1 / x2 * x2) else ((x1 - x1 / x2 * x2) + x2))
set_option maxHeartbeats 4000000 in
set_option maxRecDepth 100000 in
theorem c_J9_floorMod_7cf53 (l : Launch)  (x1 : Int32) (x2 : Int32) (hnz : ¬ x2 = 0) : Met l yJ9_floorMod_7cf53 wsJ9_floorMod_7cf53 ({ frames := 0, cells := 0, slots := 0, locals := 0 }) (ft_Pn [.int x1, .int x2]) (vp_Si (fun z : Int32 => z = s_J9_floorMod_7cf53 x1 x2)) 0 0 (fun _ => False) := by
  refine va_MetF (cc := cJ9_floorMod_7cf53) (maxL := 3) (ret := (some .int)) (by decide +kernel) rfl ?_
  intro p e s m args below meth c s₁ B hml hv
  obtain ⟨hargs, -⟩ := hv
  subst hargs
  have hx := B.exec
  have hb := B.bytes
  have hr := B.returns
  have hts := atoms_spec (ws := wsJ9_floorMod_7cf53) B.pre
  have hown : s.vm.findClass RJ9 = some m.cls := findClass_of_methodNamed B.named
  have hlocks := B.notSynchronized
  have hl := lv_entry ([.int x1, .int x2]) (n := 3) (Nat.le_of_ble_eq_true rfl)
  rw [lg_entry_eq]
  generalize (lg_sl ([.int x1, .int x2]) ++ List.replicate (3 - (lg_sl ([.int x1, .int x2])).length) Slot.unset).toArray = ls at hl ⊢
  have hl : lv_has ls 3 [(0, .int (x1)), (1, .int (x2))] := hl
  have hsp := (s_J9_floorMod_7cf53.eq_1  x1 x2).symm
  refine lv_iload_n hx hb dJ9_floorMod_7cf53_0 rfl (lv_at hl 0 rfl) ?_
  refine lv_iload_n hx hb dJ9_floorMod_7cf53_1 rfl (lv_at hl 1 rfl) ?_
  refine lv_irem hx hb dJ9_floorMod_7cf53_2 (by exact hnz) ?_
  refine lv_istore_n (lv' := [(2, .int (x1 - x1 / x2 * x2)), (0, .int (x1)), (1, .int (x2))]) hx hb dJ9_floorMod_7cf53_3 rfl hl (by decide) rfl (fun ls hl => ?_)
  refine lv_iload_n hx hb dJ9_floorMod_7cf53_4 rfl (lv_at hl 1 rfl) ?_
  refine lv_iload_n hx hb dJ9_floorMod_7cf53_5 rfl (lv_at hl 2 rfl) ?_
  refine lv_ixor hx hb dJ9_floorMod_7cf53_6 ?_
  refine lv_if_ge (tgt := 18) hx hb dJ9_floorMod_7cf53_7 (by decide) (fun c_7 => ?_) (fun c_7 => ?_)
  · replace hsp := (if_pos c_7).symm.trans hsp
    refine lv_iload_n hx hb dJ9_floorMod_7cf53_18 rfl (lv_at hl 0 rfl) ?_
    exact W.iret (v := x1 - x1 / x2 * x2) hx hb hr (fun t ht hW => ft_endi (post := fun z : Int32 => z = s_J9_floorMod_7cf53 x1 x2) hsp ht) (fun _ h => absurd h List.not_mem_nil) dJ9_floorMod_7cf53_19
  · replace hsp := (if_neg c_7).symm.trans hsp
    refine lv_iload_n hx hb dJ9_floorMod_7cf53_10 rfl (lv_at hl 0 rfl) ?_
    refine lv_if_eq (tgt := 18) hx hb dJ9_floorMod_7cf53_11 (by decide) (fun c_11 => ?_) (fun c_11 => ?_)
    · replace hsp := (if_pos c_11).symm.trans hsp
      refine lv_iload_n hx hb dJ9_floorMod_7cf53_18 rfl (lv_at hl 0 rfl) ?_
      exact W.iret (v := x1 - x1 / x2 * x2) hx hb hr (fun t ht hW => ft_endi (post := fun z : Int32 => z = s_J9_floorMod_7cf53 x1 x2) hsp ht) (fun _ h => absurd h List.not_mem_nil) dJ9_floorMod_7cf53_19
    · replace hsp := (if_neg c_11).symm.trans hsp
      refine lv_iload_n hx hb dJ9_floorMod_7cf53_14 rfl (lv_at hl 0 rfl) ?_
      refine lv_iload_n hx hb dJ9_floorMod_7cf53_15 rfl (lv_at hl 2 rfl) ?_
      refine lv_iadd hx hb dJ9_floorMod_7cf53_16 ?_
      exact W.iret (v := (x1 - x1 / x2 * x2) + x2) hx hb hr (fun t ht hW => ft_endi (post := fun z : Int32 => z = s_J9_floorMod_7cf53 x1 x2) hsp ht) (fun _ h => absurd h List.not_mem_nil) dJ9_floorMod_7cf53_17

def s_J6_bitCount_0f7a4  (x1 : Int32) : Int32 := (((((((x1 - (((x1.toUInt32 >>> (Int32.toUInt32 1 &&& Int32.toUInt32 31)).toInt32) &&& 1431655765)) &&& 858993459) + ((((x1 - (((x1.toUInt32 >>> (Int32.toUInt32 1 &&& Int32.toUInt32 31)).toInt32) &&& 1431655765)).toUInt32 >>> (Int32.toUInt32 2 &&& Int32.toUInt32 31)).toInt32) &&& 858993459)) + (((((x1 - (((x1.toUInt32 >>> (Int32.toUInt32 1 &&& Int32.toUInt32 31)).toInt32) &&& 1431655765)) &&& 858993459) + ((((x1 - (((x1.toUInt32 >>> (Int32.toUInt32 1 &&& Int32.toUInt32 31)).toInt32) &&& 1431655765)).toUInt32 >>> (Int32.toUInt32 2 &&& Int32.toUInt32 31)).toInt32) &&& 858993459)).toUInt32 >>> (Int32.toUInt32 4 &&& Int32.toUInt32 31)).toInt32)) &&& 252645135) + (((((((x1 - (((x1.toUInt32 >>> (Int32.toUInt32 1 &&& Int32.toUInt32 31)).toInt32) &&& 1431655765)) &&& 858993459) + ((((x1 - (((x1.toUInt32 >>> (Int32.toUInt32 1 &&& Int32.toUInt32 31)).toInt32) &&& 1431655765)).toUInt32 >>> (Int32.toUInt32 2 &&& Int32.toUInt32 31)).toInt32) &&& 858993459)) + (((((x1 - (((x1.toUInt32 >>> (Int32.toUInt32 1 &&& Int32.toUInt32 31)).toInt32) &&& 1431655765)) &&& 858993459) + ((((x1 - (((x1.toUInt32 >>> (Int32.toUInt32 1 &&& Int32.toUInt32 31)).toInt32) &&& 1431655765)).toUInt32 >>> (Int32.toUInt32 2 &&& Int32.toUInt32 31)).toInt32) &&& 858993459)).toUInt32 >>> (Int32.toUInt32 4 &&& Int32.toUInt32 31)).toInt32)) &&& 252645135).toUInt32 >>> (Int32.toUInt32 8 &&& Int32.toUInt32 31)).toInt32)) + ((((((((x1 - (((x1.toUInt32 >>> (Int32.toUInt32 1 &&& Int32.toUInt32 31)).toInt32) &&& 1431655765)) &&& 858993459) + ((((x1 - (((x1.toUInt32 >>> (Int32.toUInt32 1 &&& Int32.toUInt32 31)).toInt32) &&& 1431655765)).toUInt32 >>> (Int32.toUInt32 2 &&& Int32.toUInt32 31)).toInt32) &&& 858993459)) + (((((x1 - (((x1.toUInt32 >>> (Int32.toUInt32 1 &&& Int32.toUInt32 31)).toInt32) &&& 1431655765)) &&& 858993459) + ((((x1 - (((x1.toUInt32 >>> (Int32.toUInt32 1 &&& Int32.toUInt32 31)).toInt32) &&& 1431655765)).toUInt32 >>> (Int32.toUInt32 2 &&& Int32.toUInt32 31)).toInt32) &&& 858993459)).toUInt32 >>> (Int32.toUInt32 4 &&& Int32.toUInt32 31)).toInt32)) &&& 252645135) + (((((((x1 - (((x1.toUInt32 >>> (Int32.toUInt32 1 &&& Int32.toUInt32 31)).toInt32) &&& 1431655765)) &&& 858993459) + ((((x1 - (((x1.toUInt32 >>> (Int32.toUInt32 1 &&& Int32.toUInt32 31)).toInt32) &&& 1431655765)).toUInt32 >>> (Int32.toUInt32 2 &&& Int32.toUInt32 31)).toInt32) &&& 858993459)) + (((((x1 - (((x1.toUInt32 >>> (Int32.toUInt32 1 &&& Int32.toUInt32 31)).toInt32) &&& 1431655765)) &&& 858993459) + ((((x1 - (((x1.toUInt32 >>> (Int32.toUInt32 1 &&& Int32.toUInt32 31)).toInt32) &&& 1431655765)).toUInt32 >>> (Int32.toUInt32 2 &&& Int32.toUInt32 31)).toInt32) &&& 858993459)).toUInt32 >>> (Int32.toUInt32 4 &&& Int32.toUInt32 31)).toInt32)) &&& 252645135).toUInt32 >>> (Int32.toUInt32 8 &&& Int32.toUInt32 31)).toInt32)).toUInt32 >>> (Int32.toUInt32 16 &&& Int32.toUInt32 31)).toInt32)) &&& 63
set_option maxHeartbeats 4000000 in
set_option maxRecDepth 100000 in
theorem c_J6_bitCount_0f7a4 (l : Launch)  (x1 : Int32) : Met l yJ6_bitCount_0f7a4 wsJ6_bitCount_0f7a4 ({ frames := 0, cells := 0, slots := 0, locals := 0 }) (ft_Pn [.int x1]) (vp_Si (fun z : Int32 => z = s_J6_bitCount_0f7a4 x1)) 0 0 (fun _ => False) := by
  refine va_MetF (cc := cJ6_bitCount_0f7a4) (maxL := 1) (ret := (some .int)) (by decide +kernel) rfl ?_
  intro p e s m args below meth c s₁ B hml hv
  obtain ⟨hargs, -⟩ := hv
  subst hargs
  have hx := B.exec
  have hb := B.bytes
  have hr := B.returns
  have hts := atoms_spec (ws := wsJ6_bitCount_0f7a4) B.pre
  have hown : s.vm.findClass RJ6 = some m.cls := findClass_of_methodNamed B.named
  have hlocks := B.notSynchronized
  have hl := lv_entry ([.int x1]) (n := 1) (Nat.le_of_ble_eq_true rfl)
  rw [lg_entry_eq]
  generalize (lg_sl ([.int x1]) ++ List.replicate (1 - (lg_sl ([.int x1])).length) Slot.unset).toArray = ls at hl ⊢
  have hl : lv_has ls 1 [(0, .int (x1))] := hl
  have hsp := (s_J6_bitCount_0f7a4.eq_1  x1).symm
  refine lv_iload_n hx hb dJ6_bitCount_0f7a4_0 rfl (lv_at hl 0 rfl) ?_
  refine lv_iload_n hx hb dJ6_bitCount_0f7a4_1 rfl (lv_at hl 0 rfl) ?_
  refine lv_iconst (v := 1) hx hb dJ6_bitCount_0f7a4_2 (by decide) ?_
  refine lv_iushr (v := (x1.toUInt32 >>> (Int32.toUInt32 1 &&& Int32.toUInt32 31)).toInt32) hx hb dJ6_bitCount_0f7a4_3 rfl ?_
  refine lv_ldcw hx hb hown (hts (.constant RJ6 265 (1431655765)) (by decide +kernel)) dJ6_bitCount_0f7a4_4 ?_
  refine lv_iand hx hb dJ6_bitCount_0f7a4_7 ?_
  refine lv_isub hx hb dJ6_bitCount_0f7a4_8 ?_
  refine lv_istore_n (lv' := [(0, .int (x1 - (((x1.toUInt32 >>> (Int32.toUInt32 1 &&& Int32.toUInt32 31)).toInt32) &&& 1431655765)))]) hx hb dJ6_bitCount_0f7a4_9 rfl hl (by decide) rfl (fun ls hl => ?_)
  refine lv_iload_n hx hb dJ6_bitCount_0f7a4_10 rfl (lv_at hl 0 rfl) ?_
  refine lv_ldcw hx hb hown (hts (.constant RJ6 266 (858993459)) (by decide +kernel)) dJ6_bitCount_0f7a4_11 ?_
  refine lv_iand hx hb dJ6_bitCount_0f7a4_14 ?_
  refine lv_iload_n hx hb dJ6_bitCount_0f7a4_15 rfl (lv_at hl 0 rfl) ?_
  refine lv_iconst (v := 2) hx hb dJ6_bitCount_0f7a4_16 (by decide) ?_
  refine lv_iushr (v := ((x1 - (((x1.toUInt32 >>> (Int32.toUInt32 1 &&& Int32.toUInt32 31)).toInt32) &&& 1431655765)).toUInt32 >>> (Int32.toUInt32 2 &&& Int32.toUInt32 31)).toInt32) hx hb dJ6_bitCount_0f7a4_17 rfl ?_
  refine lv_ldcw hx hb hown (hts (.constant RJ6 266 (858993459)) (by decide +kernel)) dJ6_bitCount_0f7a4_18 ?_
  refine lv_iand hx hb dJ6_bitCount_0f7a4_21 ?_
  refine lv_iadd hx hb dJ6_bitCount_0f7a4_22 ?_
  refine lv_istore_n (lv' := [(0, .int (((x1 - (((x1.toUInt32 >>> (Int32.toUInt32 1 &&& Int32.toUInt32 31)).toInt32) &&& 1431655765)) &&& 858993459) + ((((x1 - (((x1.toUInt32 >>> (Int32.toUInt32 1 &&& Int32.toUInt32 31)).toInt32) &&& 1431655765)).toUInt32 >>> (Int32.toUInt32 2 &&& Int32.toUInt32 31)).toInt32) &&& 858993459)))]) hx hb dJ6_bitCount_0f7a4_23 rfl hl (by decide) rfl (fun ls hl => ?_)
  refine lv_iload_n hx hb dJ6_bitCount_0f7a4_24 rfl (lv_at hl 0 rfl) ?_
  refine lv_iload_n hx hb dJ6_bitCount_0f7a4_25 rfl (lv_at hl 0 rfl) ?_
  refine lv_iconst (v := 4) hx hb dJ6_bitCount_0f7a4_26 (by decide) ?_
  refine lv_iushr (v := ((((x1 - (((x1.toUInt32 >>> (Int32.toUInt32 1 &&& Int32.toUInt32 31)).toInt32) &&& 1431655765)) &&& 858993459) + ((((x1 - (((x1.toUInt32 >>> (Int32.toUInt32 1 &&& Int32.toUInt32 31)).toInt32) &&& 1431655765)).toUInt32 >>> (Int32.toUInt32 2 &&& Int32.toUInt32 31)).toInt32) &&& 858993459)).toUInt32 >>> (Int32.toUInt32 4 &&& Int32.toUInt32 31)).toInt32) hx hb dJ6_bitCount_0f7a4_27 rfl ?_
  refine lv_iadd hx hb dJ6_bitCount_0f7a4_28 ?_
  refine lv_ldcw hx hb hown (hts (.constant RJ6 267 (252645135)) (by decide +kernel)) dJ6_bitCount_0f7a4_29 ?_
  refine lv_iand hx hb dJ6_bitCount_0f7a4_32 ?_
  refine lv_istore_n (lv' := [(0, .int (((((x1 - (((x1.toUInt32 >>> (Int32.toUInt32 1 &&& Int32.toUInt32 31)).toInt32) &&& 1431655765)) &&& 858993459) + ((((x1 - (((x1.toUInt32 >>> (Int32.toUInt32 1 &&& Int32.toUInt32 31)).toInt32) &&& 1431655765)).toUInt32 >>> (Int32.toUInt32 2 &&& Int32.toUInt32 31)).toInt32) &&& 858993459)) + (((((x1 - (((x1.toUInt32 >>> (Int32.toUInt32 1 &&& Int32.toUInt32 31)).toInt32) &&& 1431655765)) &&& 858993459) + ((((x1 - (((x1.toUInt32 >>> (Int32.toUInt32 1 &&& Int32.toUInt32 31)).toInt32) &&& 1431655765)).toUInt32 >>> (Int32.toUInt32 2 &&& Int32.toUInt32 31)).toInt32) &&& 858993459)).toUInt32 >>> (Int32.toUInt32 4 &&& Int32.toUInt32 31)).toInt32)) &&& 252645135))]) hx hb dJ6_bitCount_0f7a4_33 rfl hl (by decide) rfl (fun ls hl => ?_)
  refine lv_iload_n hx hb dJ6_bitCount_0f7a4_34 rfl (lv_at hl 0 rfl) ?_
  refine lv_iload_n hx hb dJ6_bitCount_0f7a4_35 rfl (lv_at hl 0 rfl) ?_
  refine lv_bipush (v := 8) hx hb dJ6_bitCount_0f7a4_36 (by decide) ?_
  refine lv_iushr (v := ((((((x1 - (((x1.toUInt32 >>> (Int32.toUInt32 1 &&& Int32.toUInt32 31)).toInt32) &&& 1431655765)) &&& 858993459) + ((((x1 - (((x1.toUInt32 >>> (Int32.toUInt32 1 &&& Int32.toUInt32 31)).toInt32) &&& 1431655765)).toUInt32 >>> (Int32.toUInt32 2 &&& Int32.toUInt32 31)).toInt32) &&& 858993459)) + (((((x1 - (((x1.toUInt32 >>> (Int32.toUInt32 1 &&& Int32.toUInt32 31)).toInt32) &&& 1431655765)) &&& 858993459) + ((((x1 - (((x1.toUInt32 >>> (Int32.toUInt32 1 &&& Int32.toUInt32 31)).toInt32) &&& 1431655765)).toUInt32 >>> (Int32.toUInt32 2 &&& Int32.toUInt32 31)).toInt32) &&& 858993459)).toUInt32 >>> (Int32.toUInt32 4 &&& Int32.toUInt32 31)).toInt32)) &&& 252645135).toUInt32 >>> (Int32.toUInt32 8 &&& Int32.toUInt32 31)).toInt32) hx hb dJ6_bitCount_0f7a4_38 rfl ?_
  refine lv_iadd hx hb dJ6_bitCount_0f7a4_39 ?_
  refine lv_istore_n (lv' := [(0, .int ((((((x1 - (((x1.toUInt32 >>> (Int32.toUInt32 1 &&& Int32.toUInt32 31)).toInt32) &&& 1431655765)) &&& 858993459) + ((((x1 - (((x1.toUInt32 >>> (Int32.toUInt32 1 &&& Int32.toUInt32 31)).toInt32) &&& 1431655765)).toUInt32 >>> (Int32.toUInt32 2 &&& Int32.toUInt32 31)).toInt32) &&& 858993459)) + (((((x1 - (((x1.toUInt32 >>> (Int32.toUInt32 1 &&& Int32.toUInt32 31)).toInt32) &&& 1431655765)) &&& 858993459) + ((((x1 - (((x1.toUInt32 >>> (Int32.toUInt32 1 &&& Int32.toUInt32 31)).toInt32) &&& 1431655765)).toUInt32 >>> (Int32.toUInt32 2 &&& Int32.toUInt32 31)).toInt32) &&& 858993459)).toUInt32 >>> (Int32.toUInt32 4 &&& Int32.toUInt32 31)).toInt32)) &&& 252645135) + (((((((x1 - (((x1.toUInt32 >>> (Int32.toUInt32 1 &&& Int32.toUInt32 31)).toInt32) &&& 1431655765)) &&& 858993459) + ((((x1 - (((x1.toUInt32 >>> (Int32.toUInt32 1 &&& Int32.toUInt32 31)).toInt32) &&& 1431655765)).toUInt32 >>> (Int32.toUInt32 2 &&& Int32.toUInt32 31)).toInt32) &&& 858993459)) + (((((x1 - (((x1.toUInt32 >>> (Int32.toUInt32 1 &&& Int32.toUInt32 31)).toInt32) &&& 1431655765)) &&& 858993459) + ((((x1 - (((x1.toUInt32 >>> (Int32.toUInt32 1 &&& Int32.toUInt32 31)).toInt32) &&& 1431655765)).toUInt32 >>> (Int32.toUInt32 2 &&& Int32.toUInt32 31)).toInt32) &&& 858993459)).toUInt32 >>> (Int32.toUInt32 4 &&& Int32.toUInt32 31)).toInt32)) &&& 252645135).toUInt32 >>> (Int32.toUInt32 8 &&& Int32.toUInt32 31)).toInt32)))]) hx hb dJ6_bitCount_0f7a4_40 rfl hl (by decide) rfl (fun ls hl => ?_)
  refine lv_iload_n hx hb dJ6_bitCount_0f7a4_41 rfl (lv_at hl 0 rfl) ?_
  refine lv_iload_n hx hb dJ6_bitCount_0f7a4_42 rfl (lv_at hl 0 rfl) ?_
  refine lv_bipush (v := 16) hx hb dJ6_bitCount_0f7a4_43 (by decide) ?_
  refine lv_iushr (v := (((((((x1 - (((x1.toUInt32 >>> (Int32.toUInt32 1 &&& Int32.toUInt32 31)).toInt32) &&& 1431655765)) &&& 858993459) + ((((x1 - (((x1.toUInt32 >>> (Int32.toUInt32 1 &&& Int32.toUInt32 31)).toInt32) &&& 1431655765)).toUInt32 >>> (Int32.toUInt32 2 &&& Int32.toUInt32 31)).toInt32) &&& 858993459)) + (((((x1 - (((x1.toUInt32 >>> (Int32.toUInt32 1 &&& Int32.toUInt32 31)).toInt32) &&& 1431655765)) &&& 858993459) + ((((x1 - (((x1.toUInt32 >>> (Int32.toUInt32 1 &&& Int32.toUInt32 31)).toInt32) &&& 1431655765)).toUInt32 >>> (Int32.toUInt32 2 &&& Int32.toUInt32 31)).toInt32) &&& 858993459)).toUInt32 >>> (Int32.toUInt32 4 &&& Int32.toUInt32 31)).toInt32)) &&& 252645135) + (((((((x1 - (((x1.toUInt32 >>> (Int32.toUInt32 1 &&& Int32.toUInt32 31)).toInt32) &&& 1431655765)) &&& 858993459) + ((((x1 - (((x1.toUInt32 >>> (Int32.toUInt32 1 &&& Int32.toUInt32 31)).toInt32) &&& 1431655765)).toUInt32 >>> (Int32.toUInt32 2 &&& Int32.toUInt32 31)).toInt32) &&& 858993459)) + (((((x1 - (((x1.toUInt32 >>> (Int32.toUInt32 1 &&& Int32.toUInt32 31)).toInt32) &&& 1431655765)) &&& 858993459) + ((((x1 - (((x1.toUInt32 >>> (Int32.toUInt32 1 &&& Int32.toUInt32 31)).toInt32) &&& 1431655765)).toUInt32 >>> (Int32.toUInt32 2 &&& Int32.toUInt32 31)).toInt32) &&& 858993459)).toUInt32 >>> (Int32.toUInt32 4 &&& Int32.toUInt32 31)).toInt32)) &&& 252645135).toUInt32 >>> (Int32.toUInt32 8 &&& Int32.toUInt32 31)).toInt32)).toUInt32 >>> (Int32.toUInt32 16 &&& Int32.toUInt32 31)).toInt32) hx hb dJ6_bitCount_0f7a4_45 rfl ?_
  refine lv_iadd hx hb dJ6_bitCount_0f7a4_46 ?_
  refine lv_istore_n (lv' := [(0, .int (((((((x1 - (((x1.toUInt32 >>> (Int32.toUInt32 1 &&& Int32.toUInt32 31)).toInt32) &&& 1431655765)) &&& 858993459) + ((((x1 - (((x1.toUInt32 >>> (Int32.toUInt32 1 &&& Int32.toUInt32 31)).toInt32) &&& 1431655765)).toUInt32 >>> (Int32.toUInt32 2 &&& Int32.toUInt32 31)).toInt32) &&& 858993459)) + (((((x1 - (((x1.toUInt32 >>> (Int32.toUInt32 1 &&& Int32.toUInt32 31)).toInt32) &&& 1431655765)) &&& 858993459) + ((((x1 - (((x1.toUInt32 >>> (Int32.toUInt32 1 &&& Int32.toUInt32 31)).toInt32) &&& 1431655765)).toUInt32 >>> (Int32.toUInt32 2 &&& Int32.toUInt32 31)).toInt32) &&& 858993459)).toUInt32 >>> (Int32.toUInt32 4 &&& Int32.toUInt32 31)).toInt32)) &&& 252645135) + (((((((x1 - (((x1.toUInt32 >>> (Int32.toUInt32 1 &&& Int32.toUInt32 31)).toInt32) &&& 1431655765)) &&& 858993459) + ((((x1 - (((x1.toUInt32 >>> (Int32.toUInt32 1 &&& Int32.toUInt32 31)).toInt32) &&& 1431655765)).toUInt32 >>> (Int32.toUInt32 2 &&& Int32.toUInt32 31)).toInt32) &&& 858993459)) + (((((x1 - (((x1.toUInt32 >>> (Int32.toUInt32 1 &&& Int32.toUInt32 31)).toInt32) &&& 1431655765)) &&& 858993459) + ((((x1 - (((x1.toUInt32 >>> (Int32.toUInt32 1 &&& Int32.toUInt32 31)).toInt32) &&& 1431655765)).toUInt32 >>> (Int32.toUInt32 2 &&& Int32.toUInt32 31)).toInt32) &&& 858993459)).toUInt32 >>> (Int32.toUInt32 4 &&& Int32.toUInt32 31)).toInt32)) &&& 252645135).toUInt32 >>> (Int32.toUInt32 8 &&& Int32.toUInt32 31)).toInt32)) + ((((((((x1 - (((x1.toUInt32 >>> (Int32.toUInt32 1 &&& Int32.toUInt32 31)).toInt32) &&& 1431655765)) &&& 858993459) + ((((x1 - (((x1.toUInt32 >>> (Int32.toUInt32 1 &&& Int32.toUInt32 31)).toInt32) &&& 1431655765)).toUInt32 >>> (Int32.toUInt32 2 &&& Int32.toUInt32 31)).toInt32) &&& 858993459)) + (((((x1 - (((x1.toUInt32 >>> (Int32.toUInt32 1 &&& Int32.toUInt32 31)).toInt32) &&& 1431655765)) &&& 858993459) + ((((x1 - (((x1.toUInt32 >>> (Int32.toUInt32 1 &&& Int32.toUInt32 31)).toInt32) &&& 1431655765)).toUInt32 >>> (Int32.toUInt32 2 &&& Int32.toUInt32 31)).toInt32) &&& 858993459)).toUInt32 >>> (Int32.toUInt32 4 &&& Int32.toUInt32 31)).toInt32)) &&& 252645135) + (((((((x1 - (((x1.toUInt32 >>> (Int32.toUInt32 1 &&& Int32.toUInt32 31)).toInt32) &&& 1431655765)) &&& 858993459) + ((((x1 - (((x1.toUInt32 >>> (Int32.toUInt32 1 &&& Int32.toUInt32 31)).toInt32) &&& 1431655765)).toUInt32 >>> (Int32.toUInt32 2 &&& Int32.toUInt32 31)).toInt32) &&& 858993459)) + (((((x1 - (((x1.toUInt32 >>> (Int32.toUInt32 1 &&& Int32.toUInt32 31)).toInt32) &&& 1431655765)) &&& 858993459) + ((((x1 - (((x1.toUInt32 >>> (Int32.toUInt32 1 &&& Int32.toUInt32 31)).toInt32) &&& 1431655765)).toUInt32 >>> (Int32.toUInt32 2 &&& Int32.toUInt32 31)).toInt32) &&& 858993459)).toUInt32 >>> (Int32.toUInt32 4 &&& Int32.toUInt32 31)).toInt32)) &&& 252645135).toUInt32 >>> (Int32.toUInt32 8 &&& Int32.toUInt32 31)).toInt32)).toUInt32 >>> (Int32.toUInt32 16 &&& Int32.toUInt32 31)).toInt32)))]) hx hb dJ6_bitCount_0f7a4_47 rfl hl (by decide) rfl (fun ls hl => ?_)
  refine lv_iload_n hx hb dJ6_bitCount_0f7a4_48 rfl (lv_at hl 0 rfl) ?_
  refine lv_bipush (v := 63) hx hb dJ6_bitCount_0f7a4_49 (by decide) ?_
  refine lv_iand hx hb dJ6_bitCount_0f7a4_51 ?_
  exact W.iret (v := (((((((x1 - (((x1.toUInt32 >>> (Int32.toUInt32 1 &&& Int32.toUInt32 31)).toInt32) &&& 1431655765)) &&& 858993459) + ((((x1 - (((x1.toUInt32 >>> (Int32.toUInt32 1 &&& Int32.toUInt32 31)).toInt32) &&& 1431655765)).toUInt32 >>> (Int32.toUInt32 2 &&& Int32.toUInt32 31)).toInt32) &&& 858993459)) + (((((x1 - (((x1.toUInt32 >>> (Int32.toUInt32 1 &&& Int32.toUInt32 31)).toInt32) &&& 1431655765)) &&& 858993459) + ((((x1 - (((x1.toUInt32 >>> (Int32.toUInt32 1 &&& Int32.toUInt32 31)).toInt32) &&& 1431655765)).toUInt32 >>> (Int32.toUInt32 2 &&& Int32.toUInt32 31)).toInt32) &&& 858993459)).toUInt32 >>> (Int32.toUInt32 4 &&& Int32.toUInt32 31)).toInt32)) &&& 252645135) + (((((((x1 - (((x1.toUInt32 >>> (Int32.toUInt32 1 &&& Int32.toUInt32 31)).toInt32) &&& 1431655765)) &&& 858993459) + ((((x1 - (((x1.toUInt32 >>> (Int32.toUInt32 1 &&& Int32.toUInt32 31)).toInt32) &&& 1431655765)).toUInt32 >>> (Int32.toUInt32 2 &&& Int32.toUInt32 31)).toInt32) &&& 858993459)) + (((((x1 - (((x1.toUInt32 >>> (Int32.toUInt32 1 &&& Int32.toUInt32 31)).toInt32) &&& 1431655765)) &&& 858993459) + ((((x1 - (((x1.toUInt32 >>> (Int32.toUInt32 1 &&& Int32.toUInt32 31)).toInt32) &&& 1431655765)).toUInt32 >>> (Int32.toUInt32 2 &&& Int32.toUInt32 31)).toInt32) &&& 858993459)).toUInt32 >>> (Int32.toUInt32 4 &&& Int32.toUInt32 31)).toInt32)) &&& 252645135).toUInt32 >>> (Int32.toUInt32 8 &&& Int32.toUInt32 31)).toInt32)) + ((((((((x1 - (((x1.toUInt32 >>> (Int32.toUInt32 1 &&& Int32.toUInt32 31)).toInt32) &&& 1431655765)) &&& 858993459) + ((((x1 - (((x1.toUInt32 >>> (Int32.toUInt32 1 &&& Int32.toUInt32 31)).toInt32) &&& 1431655765)).toUInt32 >>> (Int32.toUInt32 2 &&& Int32.toUInt32 31)).toInt32) &&& 858993459)) + (((((x1 - (((x1.toUInt32 >>> (Int32.toUInt32 1 &&& Int32.toUInt32 31)).toInt32) &&& 1431655765)) &&& 858993459) + ((((x1 - (((x1.toUInt32 >>> (Int32.toUInt32 1 &&& Int32.toUInt32 31)).toInt32) &&& 1431655765)).toUInt32 >>> (Int32.toUInt32 2 &&& Int32.toUInt32 31)).toInt32) &&& 858993459)).toUInt32 >>> (Int32.toUInt32 4 &&& Int32.toUInt32 31)).toInt32)) &&& 252645135) + (((((((x1 - (((x1.toUInt32 >>> (Int32.toUInt32 1 &&& Int32.toUInt32 31)).toInt32) &&& 1431655765)) &&& 858993459) + ((((x1 - (((x1.toUInt32 >>> (Int32.toUInt32 1 &&& Int32.toUInt32 31)).toInt32) &&& 1431655765)).toUInt32 >>> (Int32.toUInt32 2 &&& Int32.toUInt32 31)).toInt32) &&& 858993459)) + (((((x1 - (((x1.toUInt32 >>> (Int32.toUInt32 1 &&& Int32.toUInt32 31)).toInt32) &&& 1431655765)) &&& 858993459) + ((((x1 - (((x1.toUInt32 >>> (Int32.toUInt32 1 &&& Int32.toUInt32 31)).toInt32) &&& 1431655765)).toUInt32 >>> (Int32.toUInt32 2 &&& Int32.toUInt32 31)).toInt32) &&& 858993459)).toUInt32 >>> (Int32.toUInt32 4 &&& Int32.toUInt32 31)).toInt32)) &&& 252645135).toUInt32 >>> (Int32.toUInt32 8 &&& Int32.toUInt32 31)).toInt32)).toUInt32 >>> (Int32.toUInt32 16 &&& Int32.toUInt32 31)).toInt32)) &&& 63) hx hb hr (fun t ht hW => ft_endi (post := fun z : Int32 => z = s_J6_bitCount_0f7a4 x1) hsp ht) (fun _ h => absurd h List.not_mem_nil) dJ6_bitCount_0f7a4_52

def s_X4_today (r : Nat → Int32)  : Int32 := (s_J9_floorMod_7cf53 (r 1) 7)
set_option maxHeartbeats 4000000 in
set_option maxRecDepth 100000 in
theorem c_X4_today (l : Launch) (dC : va_G) (ad : Nat → Nat) (k : Nat → ClassId) (r : Nat → Int32)  : Met l yX4_today wsX4_today ({ frames := 1, cells := 0, slots := 0, locals := 22 }) (ft_Pc dC k [.ref (ad 0)] (ft_WS ad k r)) (vp_Si (fun z : Int32 => z = s_X4_today r)) 0 0 (fun _ => False) := by
  refine Met.ofW (cc := cX4_today) (maxL := 1) (ret := (some .int)) (by decide) rfl ?_
  intro p e s m args below meth c s₁ B hml hv
  obtain ⟨hargs, hP, hK⟩ := hv
  subst hargs
  have hx := B.exec
  have hb := B.bytes
  have hr := B.returns
  have hts := atoms_spec (ws := wsX4_today) B.pre
  have hown : s.vm.findClass RX4 = some m.cls := findClass_of_methodNamed B.named
  have hlocks := B.notSynchronized
  have hl := lv_entry ([.ref (ad 0)]) (n := 1) (Nat.le_of_ble_eq_true rfl)
  rw [lg_entry_eq]
  generalize (lg_sl ([.ref (ad 0)]) ++ List.replicate (1 - (lg_sl ([.ref (ad 0)])).length) Slot.unset).toArray = ls at hl ⊢
  have hl : lv_has ls 1 [(0, .ref (ad 0))] := hl
  have hsp := (s_X4_today.eq_1 r ).symm
  refine lv_aload_n hx hb dX4_today_0 rfl (lv_at hl 0 rfl) ?_
  refine va_get (D := dC) (ci := 6) (v := .int (r 1)) (C := RX4) (T := TX4) (N := 12) hx hb hts (by decide +kernel) hown hK.1 hP 0 (ft_get' (by decide) rfl) rfl 5 (by decide) (hts (.fieldLink RX4 51 "FoodTruckRota$Square" "dayCounter" "I") (by decide +kernel)) (fun _ h9 => h9) rfl dX4_today_1 ?_
  refine lv_bipush (v := 7) hx hb dX4_today_4 (by decide) ?_
  refine vp_callSi (va_Run.run (va_runS (As := [.int (r 1), .int (7)]) (rest := []) ⟨hx, hb, hml, hown, hts⟩ (c_J9_floorMod_7cf53 l (r 1) 7 (by decide)) (va_cwS 2 hts gX4_today_J9_floorMod_7cf53 rfl rfl rfl (by decide +kernel) ⟨Nat.le_of_ble_eq_true rfl, Nat.le_of_ble_eq_true rfl⟩) ft_preSn rfl rfl hl.1 rfl (lv_room (Nat.le_of_ble_eq_true rfl)) dX4_today_6 ⟨Nat.le_of_ble_eq_true rfl, Nat.le_of_ble_eq_true rfl⟩)) (fun z hz => ?_)
  subst hz
  exact W.iret (v := (s_J9_floorMod_7cf53 (r 1) 7)) hx hb hr (fun t ht hW => ft_endi (post := fun z : Int32 => z = s_X4_today r) hsp ht) (fun _ h => absurd h List.not_mem_nil) dX4_today_9

def s_X4_countFor_L4 (r : Nat → Int32) (x1 : Int32) (K : Int32 → Int32 → Int32) : Nat → Int32 → Int32 → Int32
  | 0, y2_4, y3_4 => K y2_4 y3_4
  | n + 1, y2_4, y3_4 => if 7 ≤ y3_4 then (K y2_4 y3_4) else (if (s_X4_pitchHeldBy r x1 y3_4) = (-1) then (s_X4_countFor_L4 r x1 K n y2_4 (y3_4 + 1)) else (s_X4_countFor_L4 r x1 K n (y2_4 + 1) (y3_4 + 1)))
def s_X4_countFor (r : Nat → Int32) (x1 : Int32) : Int32 := s_X4_countFor_L4 r x1 (fun y2_4 y3_4 => y2_4) (tn 7 + 1) 0 0
set_option maxHeartbeats 4000000 in
set_option maxRecDepth 100000 in
theorem c_X4_countFor (l : Launch) (dC : va_G) (ad : Nat → Nat) (k : Nat → ClassId) (r : Nat → Int32) (x1 : Int32) : Met l yX4_countFor wsX4_countFor ({ frames := 2, cells := 0, slots := 0, locals := 45 }) (ft_Pc dC k [.ref (ad 0), .int x1] (ft_WS ad k r)) (vp_Si (fun z : Int32 => z = s_X4_countFor r x1)) 0 0 (fun _ => False) := by
  refine Met.ofW (cc := cX4_countFor) (maxL := 4) (ret := (some .int)) (by decide) rfl ?_
  intro p e s m args below meth c s₁ B hml hv
  obtain ⟨hargs, hP, hK⟩ := hv
  subst hargs
  have hx := B.exec
  have hb := B.bytes
  have hr := B.returns
  have hts := atoms_spec (ws := wsX4_countFor) B.pre
  have hown : s.vm.findClass RX4 = some m.cls := findClass_of_methodNamed B.named
  have hlocks := B.notSynchronized
  have hl := lv_entry ([.ref (ad 0), .int x1]) (n := 4) (Nat.le_of_ble_eq_true rfl)
  rw [lg_entry_eq]
  generalize (lg_sl ([.ref (ad 0), .int x1]) ++ List.replicate (4 - (lg_sl ([.ref (ad 0), .int x1])).length) Slot.unset).toArray = ls at hl ⊢
  have hl : lv_has ls 4 [(0, .ref (ad 0)), (1, .int (x1))] := hl
  have hsp := (s_X4_countFor.eq_1 r x1).symm
  refine lv_iconst (v := 0) hx hb dX4_countFor_0 (by decide) ?_
  refine lv_istore_n (lv' := [(2, .int (0)), (0, .ref (ad 0)), (1, .int (x1))]) hx hb dX4_countFor_1 rfl hl (by decide) rfl (fun ls hl => ?_)
  refine lv_iconst (v := 0) hx hb dX4_countFor_2 (by decide) ?_
  refine lv_istore_n (lv' := [(3, .int (0)), (2, .int (0)), (0, .ref (ad 0)), (1, .int (x1))]) hx hb dX4_countFor_3 rfl hl (by decide) rfl (fun ls hl => ?_)
  have loop_4 : ∀ (K : Int32 → Int32 → Int32) (hKx : ∀ (y2_4 : Int32) (y3_4 : Int32) (i_4 : Nat) (hi_4 : y3_4 = nI i_4) (hm_4 : i_4 ≤ tn 7) (ls : Array Slot) (hl : lv_has ls 4 [(3, .int (y3_4)), (2, .int (y2_4)), (0, .ref (ad 0)), (1, .int (x1))]) (hsp : K y2_4 y3_4 = s_X4_countFor r x1), W p l e (headSpec wsX4_countFor ({ frames := 2, cells := 0, slots := 0, locals := 45 })).room s m ([.ref (ad 0), .int x1] : List Value).toArray below meth c s.heap [] 0 0 (MQ below (vp_Si (fun z : Int32 => z = s_X4_countFor r x1)) ([.ref (ad 0), .int x1] : List Value).toArray s 0 0 (fun _ => False)) (F0 m 29 ls [])) (n_4 : Nat), ∀ (y2_4 : Int32) (y3_4 : Int32) (i_4 : Nat) (hi_4 : y3_4 = nI i_4) (hm_4 : i_4 ≤ tn 7) (hn_4 : tn 7 < n_4 + i_4) (ls : Array Slot) (hl : lv_has ls 4 [(3, .int (y3_4)), (2, .int (y2_4)), (0, .ref (ad 0)), (1, .int (x1))]) (hsp : s_X4_countFor_L4 r x1 K n_4 y2_4 y3_4 = s_X4_countFor r x1), W p l e (headSpec wsX4_countFor ({ frames := 2, cells := 0, slots := 0, locals := 45 })).room s m ([.ref (ad 0), .int x1] : List Value).toArray below meth c s.heap [] 0 0 (MQ below (vp_Si (fun z : Int32 => z = s_X4_countFor r x1)) ([.ref (ad 0), .int x1] : List Value).toArray s 0 0 (fun _ => False)) (F0 m 4 ls []) := by
    intro K hKx n_4
    induction n_4 with
    | zero => intro y2_4 y3_4 i_4 hi_4 hm_4 hn_4; exact absurd hn_4 (by omega)
    | succ n ih_4 =>
      intro y2_4 y3_4 i_4 hi_4 hm_4 hn_4 ls hl hsp
      rw [s_X4_countFor_L4] at hsp
      refine lv_iload_n hx hb dX4_countFor_4 rfl (lv_at hl 0 rfl) ?_
      refine lv_bipush (v := 7) hx hb dX4_countFor_5 (by decide) ?_
      refine lv_icmp_ge (tgt := 29) hx hb dX4_countFor_7 (by decide) (fun c_7 => ?_) (fun c_7 => ?_)
      · replace hsp := (if_pos c_7).symm.trans hsp
        exact hKx y2_4 y3_4 i_4 hi_4 hm_4 ls (lv_sub hl [0, 1, 2, 3] rfl) hsp
      · replace hsp := (if_neg c_7).symm.trans hsp
        have hlt_4 := ft_step hi_4 hm_4 c_7
        refine lv_aload_n hx hb dX4_countFor_10 rfl (lv_at hl 2 rfl) ?_
        refine lv_iload_n hx hb dX4_countFor_11 rfl (lv_at hl 3 rfl) ?_
        refine lv_iload_n hx hb dX4_countFor_12 rfl (lv_at hl 0 rfl) ?_
        refine vp_callSi (va_Run.run (va_runV (As := [.int (x1), .int (y3_4)]) (rest := []) ⟨hx, hb, hml, hown, hts⟩ (c_X4_pitchHeldBy l dC ad k r x1 y3_4) (cwV 2 hts gX4_countFor_X4_pitchHeldBy rfl rfl rfl (by decide +kernel) ⟨Nat.le_of_ble_eq_true rfl, Nat.le_of_ble_eq_true rfl⟩) (ft_preVc hK hP (ci := 6) rfl (ft_get' (by decide) rfl)) rfl rfl hl.1 rfl (lv_room (Nat.le_of_ble_eq_true rfl)) dX4_countFor_13 ⟨Nat.le_of_ble_eq_true rfl, Nat.le_of_ble_eq_true rfl⟩)) (fun z hz => ?_)
        subst hz
        refine lv_iconst (v := (-1)) hx hb dX4_countFor_16 (by decide) ?_
        refine lv_icmp_eq (tgt := 23) hx hb dX4_countFor_17 (by decide) (fun c_17 => ?_) (fun c_17 => ?_)
        · replace hsp := (if_pos c_17).symm.trans hsp
          refine lv_iinc (v := y3_4 + 1) (lv' := [(3, .int (y3_4 + 1)), (2, .int (y2_4)), (0, .ref (ad 0)), (1, .int (x1))]) hx hb dX4_countFor_23 hl (k := 0) rfl rfl (by decide) rfl (fun ls hl => ?_)
          refine lv_goto (tgt := 4) hx hb dX4_countFor_26 (by decide) ?_
          exact ih_4 y2_4 (y3_4 + 1) (i_4 + 1) (by rw [hi_4, nI_1]) hlt_4 (by omega) ls (lv_sub hl [0, 1, 2, 3] rfl) hsp
        · replace hsp := (if_neg c_17).symm.trans hsp
          refine lv_iinc (v := y2_4 + 1) (lv' := [(2, .int (y2_4 + 1)), (3, .int (y3_4)), (0, .ref (ad 0)), (1, .int (x1))]) hx hb dX4_countFor_20 hl (k := 1) rfl rfl (by decide) rfl (fun ls hl => ?_)
          refine lv_iinc (v := y3_4 + 1) (lv' := [(3, .int (y3_4 + 1)), (2, .int (y2_4 + 1)), (0, .ref (ad 0)), (1, .int (x1))]) hx hb dX4_countFor_23 hl (k := 1) rfl rfl (by decide) rfl (fun ls hl => ?_)
          refine lv_goto (tgt := 4) hx hb dX4_countFor_26 (by decide) ?_
          exact ih_4 (y2_4 + 1) (y3_4 + 1) (i_4 + 1) (by rw [hi_4, nI_1]) hlt_4 (by omega) ls (lv_sub hl [0, 1, 2, 3] rfl) hsp
  refine loop_4 _ (fun y2_4 y3_4 i_4 hi_4 hm_4 ls hl hsp => ?_) (tn 7 + 1) 0 0 0 rfl (by omega) (by omega) ls (lv_sub hl [0, 1, 2, 3] rfl) hsp
  refine lv_iload_n hx hb dX4_countFor_29 rfl (lv_at hl 1 rfl) ?_
  exact W.iret (v := y2_4) hx hb hr (fun t ht hW => ft_endi (post := fun z : Int32 => z = s_X4_countFor r x1) hsp ht) (fun _ h => absurd h List.not_mem_nil) dX4_countFor_30

def s_X4_countByTrucks_L4 (r : Nat → Int32)  (K : Int32 → Int32 → Int32) : Nat → Int32 → Int32 → Int32
  | 0, y1_4, y2_4 => K y1_4 y2_4
  | n + 1, y1_4, y2_4 => if (r 0) ≤ y2_4 then (K y1_4 y2_4) else (s_X4_countByTrucks_L4 r K n (y1_4 + (s_X4_countFor r y2_4)) (y2_4 + 1))
def s_X4_countByTrucks (r : Nat → Int32)  : Int32 := s_X4_countByTrucks_L4 r (fun y1_4 y2_4 => y1_4) (tn (r 0) + 1) 0 0
set_option maxHeartbeats 4000000 in
set_option maxRecDepth 100000 in
theorem c_X4_countByTrucks (l : Launch) (dC : va_G) (ad : Nat → Nat) (k : Nat → ClassId) (r : Nat → Int32)  : Met l yX4_countByTrucks wsX4_countByTrucks ({ frames := 3, cells := 0, slots := 0, locals := 68 }) (ft_Pc dC k [.ref (ad 0)] (ft_WS ad k r)) (vp_Si (fun z : Int32 => z = s_X4_countByTrucks r)) 0 0 (fun _ => False) := by
  refine Met.ofW (cc := cX4_countByTrucks) (maxL := 3) (ret := (some .int)) (by decide) rfl ?_
  intro p e s m args below meth c s₁ B hml hv
  obtain ⟨hargs, hP, hK⟩ := hv
  subst hargs
  have hx := B.exec
  have hb := B.bytes
  have hr := B.returns
  have hts := atoms_spec (ws := wsX4_countByTrucks) B.pre
  have hown : s.vm.findClass RX4 = some m.cls := findClass_of_methodNamed B.named
  have hlocks := B.notSynchronized
  have hl := lv_entry ([.ref (ad 0)]) (n := 3) (Nat.le_of_ble_eq_true rfl)
  rw [lg_entry_eq]
  generalize (lg_sl ([.ref (ad 0)]) ++ List.replicate (3 - (lg_sl ([.ref (ad 0)])).length) Slot.unset).toArray = ls at hl ⊢
  have hl : lv_has ls 3 [(0, .ref (ad 0))] := hl
  have hsp := (s_X4_countByTrucks.eq_1 r ).symm
  refine lv_iconst (v := 0) hx hb dX4_countByTrucks_0 (by decide) ?_
  refine lv_istore_n (lv' := [(1, .int (0)), (0, .ref (ad 0))]) hx hb dX4_countByTrucks_1 rfl hl (by decide) rfl (fun ls hl => ?_)
  refine lv_iconst (v := 0) hx hb dX4_countByTrucks_2 (by decide) ?_
  refine lv_istore_n (lv' := [(2, .int (0)), (1, .int (0)), (0, .ref (ad 0))]) hx hb dX4_countByTrucks_3 rfl hl (by decide) rfl (fun ls hl => ?_)
  have loop_4 : ∀ (K : Int32 → Int32 → Int32) (hKx : ∀ (y1_4 : Int32) (y2_4 : Int32) (i_4 : Nat) (hi_4 : y2_4 = nI i_4) (hm_4 : i_4 ≤ tn (r 0)) (ls : Array Slot) (hl : lv_has ls 3 [(2, .int (y2_4)), (1, .int (y1_4)), (0, .ref (ad 0))]) (hsp : K y1_4 y2_4 = s_X4_countByTrucks r), W p l e (headSpec wsX4_countByTrucks ({ frames := 3, cells := 0, slots := 0, locals := 68 })).room s m ([.ref (ad 0)] : List Value).toArray below meth c s.heap [] 0 0 (MQ below (vp_Si (fun z : Int32 => z = s_X4_countByTrucks r)) ([.ref (ad 0)] : List Value).toArray s 0 0 (fun _ => False)) (F0 m 26 ls [])) (n_4 : Nat), ∀ (y1_4 : Int32) (y2_4 : Int32) (i_4 : Nat) (hi_4 : y2_4 = nI i_4) (hm_4 : i_4 ≤ tn (r 0)) (hn_4 : tn (r 0) < n_4 + i_4) (ls : Array Slot) (hl : lv_has ls 3 [(2, .int (y2_4)), (1, .int (y1_4)), (0, .ref (ad 0))]) (hsp : s_X4_countByTrucks_L4 r K n_4 y1_4 y2_4 = s_X4_countByTrucks r), W p l e (headSpec wsX4_countByTrucks ({ frames := 3, cells := 0, slots := 0, locals := 68 })).room s m ([.ref (ad 0)] : List Value).toArray below meth c s.heap [] 0 0 (MQ below (vp_Si (fun z : Int32 => z = s_X4_countByTrucks r)) ([.ref (ad 0)] : List Value).toArray s 0 0 (fun _ => False)) (F0 m 4 ls []) := by
    intro K hKx n_4
    induction n_4 with
    | zero => intro y1_4 y2_4 i_4 hi_4 hm_4 hn_4; exact absurd hn_4 (by omega)
    | succ n ih_4 =>
      intro y1_4 y2_4 i_4 hi_4 hm_4 hn_4 ls hl hsp
      rw [s_X4_countByTrucks_L4] at hsp
      refine lv_iload_n hx hb dX4_countByTrucks_4 rfl (lv_at hl 0 rfl) ?_
      refine lv_aload_n hx hb dX4_countByTrucks_5 rfl (lv_at hl 2 rfl) ?_
      refine va_get (D := dC) (ci := 6) (v := .int (r 0)) (C := RX4) (T := TX4) (N := 12) hx hb hts (by decide +kernel) hown hK.1 hP 0 (ft_get' (by decide) rfl) rfl 4 (by decide) (hts (.fieldLink RX4 48 "FoodTruckRota$Square" "truckTotal" "I") (by decide +kernel)) (fun _ h9 => h9) rfl dX4_countByTrucks_6 ?_
      refine lv_icmp_ge (tgt := 26) hx hb dX4_countByTrucks_9 (by decide) (fun c_9 => ?_) (fun c_9 => ?_)
      · replace hsp := (if_pos c_9).symm.trans hsp
        exact hKx y1_4 y2_4 i_4 hi_4 hm_4 ls (lv_sub hl [0, 1, 2] rfl) hsp
      · replace hsp := (if_neg c_9).symm.trans hsp
        have hlt_4 := ft_step hi_4 hm_4 c_9
        refine lv_iload_n hx hb dX4_countByTrucks_12 rfl (lv_at hl 1 rfl) ?_
        refine lv_aload_n hx hb dX4_countByTrucks_13 rfl (lv_at hl 2 rfl) ?_
        refine lv_iload_n hx hb dX4_countByTrucks_14 rfl (lv_at hl 0 rfl) ?_
        refine vp_callSi (va_Run.run (va_runV (As := [.int (y2_4)]) (rest := [.int (y1_4)]) ⟨hx, hb, hml, hown, hts⟩ (c_X4_countFor l dC ad k r y2_4) (cwV 1 hts gX4_countByTrucks_X4_countFor rfl rfl rfl (by decide +kernel) ⟨Nat.le_of_ble_eq_true rfl, Nat.le_of_ble_eq_true rfl⟩) (ft_preVc hK hP (ci := 6) rfl (ft_get' (by decide) rfl)) rfl rfl hl.1 rfl (lv_room (Nat.le_of_ble_eq_true rfl)) dX4_countByTrucks_15 ⟨Nat.le_of_ble_eq_true rfl, Nat.le_of_ble_eq_true rfl⟩)) (fun z hz => ?_)
        subst hz
        refine lv_iadd hx hb dX4_countByTrucks_18 ?_
        refine lv_istore_n (lv' := [(1, .int (y1_4 + (s_X4_countFor r y2_4))), (2, .int (y2_4)), (0, .ref (ad 0))]) hx hb dX4_countByTrucks_19 rfl hl (by decide) rfl (fun ls hl => ?_)
        refine lv_iinc (v := y2_4 + 1) (lv' := [(2, .int (y2_4 + 1)), (1, .int (y1_4 + (s_X4_countFor r y2_4))), (0, .ref (ad 0))]) hx hb dX4_countByTrucks_20 hl (k := 1) rfl rfl (by decide) rfl (fun ls hl => ?_)
        refine lv_goto (tgt := 4) hx hb dX4_countByTrucks_23 (by decide) ?_
        exact ih_4 (y1_4 + (s_X4_countFor r y2_4)) (y2_4 + 1) (i_4 + 1) (by rw [hi_4, nI_1]) hlt_4 (by omega) ls (lv_sub hl [0, 1, 2] rfl) hsp
  refine loop_4 _ (fun y1_4 y2_4 i_4 hi_4 hm_4 ls hl hsp => ?_) (tn (r 0) + 1) 0 0 0 rfl (by omega) (by omega) ls (lv_sub hl [0, 1, 2] rfl) hsp
  refine lv_iload_n hx hb dX4_countByTrucks_26 rfl (lv_at hl 1 rfl) ?_
  exact W.iret (v := y1_4) hx hb hr (fun t ht hW => ft_endi (post := fun z : Int32 => z = s_X4_countByTrucks r) hsp ht) (fun _ h => absurd h List.not_mem_nil) dX4_countByTrucks_27

def s_X4_countByPitches_L11 (r : Nat → Int32)  (y1_4 : Int32) (y2_4 : Int32) (K : Int32 → Int32 → Int32) : Nat → Int32 → Int32 → Int32
  | 0, y1_11, y3_11 => K y1_11 y3_11
  | n + 1, y1_11, y3_11 => if 7 ≤ y3_11 then (K y1_11 y3_11) else (if (s_X4_holderOf r y2_4 y3_11) = (-1) then (s_X4_countByPitches_L11 r y1_4 y2_4 K n y1_11 (y3_11 + 1)) else (s_X4_countByPitches_L11 r y1_4 y2_4 K n (y1_11 + 1) (y3_11 + 1)))
def s_X4_countByPitches_L4 (r : Nat → Int32)  (K : Int32 → Int32 → Int32) : Nat → Int32 → Int32 → Int32
  | 0, y1_4, y2_4 => K y1_4 y2_4
  | n + 1, y1_4, y2_4 => if 5 ≤ y2_4 then (K y1_4 y2_4) else (s_X4_countByPitches_L11 r y1_4 y2_4 (fun y1_11 y3_11 => s_X4_countByPitches_L4 r K n y1_11 (y2_4 + 1)) (tn 7 + 1) y1_4 0)
def s_X4_countByPitches (r : Nat → Int32)  : Int32 := s_X4_countByPitches_L4 r (fun y1_4 y2_4 => y1_4) (tn 5 + 1) 0 0
set_option maxHeartbeats 4000000 in
set_option maxRecDepth 100000 in
theorem c_X4_countByPitches (l : Launch) (dC : va_G) (ad : Nat → Nat) (k : Nat → ClassId) (r : Nat → Int32)  : Met l yX4_countByPitches wsX4_countByPitches ({ frames := 1, cells := 0, slots := 0, locals := 22 }) (ft_Pc dC k [.ref (ad 0)] (ft_WS ad k r)) (vp_Si (fun z : Int32 => z = s_X4_countByPitches r)) 0 0 (fun _ => False) := by
  refine Met.ofW (cc := cX4_countByPitches) (maxL := 4) (ret := (some .int)) (by decide) rfl ?_
  intro p e s m args below meth c s₁ B hml hv
  obtain ⟨hargs, hP, hK⟩ := hv
  subst hargs
  have hx := B.exec
  have hb := B.bytes
  have hr := B.returns
  have hts := atoms_spec (ws := wsX4_countByPitches) B.pre
  have hown : s.vm.findClass RX4 = some m.cls := findClass_of_methodNamed B.named
  have hlocks := B.notSynchronized
  have hl := lv_entry ([.ref (ad 0)]) (n := 4) (Nat.le_of_ble_eq_true rfl)
  rw [lg_entry_eq]
  generalize (lg_sl ([.ref (ad 0)]) ++ List.replicate (4 - (lg_sl ([.ref (ad 0)])).length) Slot.unset).toArray = ls at hl ⊢
  have hl : lv_has ls 4 [(0, .ref (ad 0))] := hl
  have hsp := (s_X4_countByPitches.eq_1 r ).symm
  refine lv_iconst (v := 0) hx hb dX4_countByPitches_0 (by decide) ?_
  refine lv_istore_n (lv' := [(1, .int (0)), (0, .ref (ad 0))]) hx hb dX4_countByPitches_1 rfl hl (by decide) rfl (fun ls hl => ?_)
  refine lv_iconst (v := 0) hx hb dX4_countByPitches_2 (by decide) ?_
  refine lv_istore_n (lv' := [(2, .int (0)), (1, .int (0)), (0, .ref (ad 0))]) hx hb dX4_countByPitches_3 rfl hl (by decide) rfl (fun ls hl => ?_)
  have loop_4 : ∀ (K : Int32 → Int32 → Int32) (hKx : ∀ (y1_4 : Int32) (y2_4 : Int32) (i_4 : Nat) (hi_4 : y2_4 = nI i_4) (hm_4 : i_4 ≤ tn 5) (ls : Array Slot) (hl : lv_has ls 4 [(2, .int (y2_4)), (1, .int (y1_4)), (0, .ref (ad 0))]) (hsp : K y1_4 y2_4 = s_X4_countByPitches r), W p l e (headSpec wsX4_countByPitches ({ frames := 1, cells := 0, slots := 0, locals := 22 })).room s m ([.ref (ad 0)] : List Value).toArray below meth c s.heap [] 0 0 (MQ below (vp_Si (fun z : Int32 => z = s_X4_countByPitches r)) ([.ref (ad 0)] : List Value).toArray s 0 0 (fun _ => False)) (F0 m 42 ls [])) (n_4 : Nat), ∀ (y1_4 : Int32) (y2_4 : Int32) (i_4 : Nat) (hi_4 : y2_4 = nI i_4) (hm_4 : i_4 ≤ tn 5) (hn_4 : tn 5 < n_4 + i_4) (ls : Array Slot) (hl : lv_has ls 4 [(2, .int (y2_4)), (1, .int (y1_4)), (0, .ref (ad 0))]) (hsp : s_X4_countByPitches_L4 r K n_4 y1_4 y2_4 = s_X4_countByPitches r), W p l e (headSpec wsX4_countByPitches ({ frames := 1, cells := 0, slots := 0, locals := 22 })).room s m ([.ref (ad 0)] : List Value).toArray below meth c s.heap [] 0 0 (MQ below (vp_Si (fun z : Int32 => z = s_X4_countByPitches r)) ([.ref (ad 0)] : List Value).toArray s 0 0 (fun _ => False)) (F0 m 4 ls []) := by
    intro K hKx n_4
    induction n_4 with
    | zero => intro y1_4 y2_4 i_4 hi_4 hm_4 hn_4; exact absurd hn_4 (by omega)
    | succ n ih_4 =>
      intro y1_4 y2_4 i_4 hi_4 hm_4 hn_4 ls hl hsp
      rw [s_X4_countByPitches_L4] at hsp
      refine lv_iload_n hx hb dX4_countByPitches_4 rfl (lv_at hl 0 rfl) ?_
      refine lv_iconst (v := 5) hx hb dX4_countByPitches_5 (by decide) ?_
      refine lv_icmp_ge (tgt := 42) hx hb dX4_countByPitches_6 (by decide) (fun c_6 => ?_) (fun c_6 => ?_)
      · replace hsp := (if_pos c_6).symm.trans hsp
        exact hKx y1_4 y2_4 i_4 hi_4 hm_4 ls (lv_sub hl [0, 1, 2] rfl) hsp
      · replace hsp := (if_neg c_6).symm.trans hsp
        have hlt_4 := ft_step hi_4 hm_4 c_6
        refine lv_iconst (v := 0) hx hb dX4_countByPitches_9 (by decide) ?_
        refine lv_istore_n (lv' := [(3, .int (0)), (2, .int (y2_4)), (1, .int (y1_4)), (0, .ref (ad 0))]) hx hb dX4_countByPitches_10 rfl hl (by decide) rfl (fun ls hl => ?_)
        have loop_11 : ∀ (K : Int32 → Int32 → Int32) (hKx : ∀ (y1_11 : Int32) (y3_11 : Int32) (i_11 : Nat) (hi_11 : y3_11 = nI i_11) (hm_11 : i_11 ≤ tn 7) (ls : Array Slot) (hl : lv_has ls 4 [(3, .int (y3_11)), (2, .int (y2_4)), (1, .int (y1_11)), (0, .ref (ad 0))]) (hsp : K y1_11 y3_11 = s_X4_countByPitches r), W p l e (headSpec wsX4_countByPitches ({ frames := 1, cells := 0, slots := 0, locals := 22 })).room s m ([.ref (ad 0)] : List Value).toArray below meth c s.heap [] 0 0 (MQ below (vp_Si (fun z : Int32 => z = s_X4_countByPitches r)) ([.ref (ad 0)] : List Value).toArray s 0 0 (fun _ => False)) (F0 m 36 ls [])) (n_11 : Nat), ∀ (y1_11 : Int32) (y3_11 : Int32) (i_11 : Nat) (hi_11 : y3_11 = nI i_11) (hm_11 : i_11 ≤ tn 7) (hn_11 : tn 7 < n_11 + i_11) (ls : Array Slot) (hl : lv_has ls 4 [(3, .int (y3_11)), (2, .int (y2_4)), (1, .int (y1_11)), (0, .ref (ad 0))]) (hsp : s_X4_countByPitches_L11 r y1_4 y2_4 K n_11 y1_11 y3_11 = s_X4_countByPitches r), W p l e (headSpec wsX4_countByPitches ({ frames := 1, cells := 0, slots := 0, locals := 22 })).room s m ([.ref (ad 0)] : List Value).toArray below meth c s.heap [] 0 0 (MQ below (vp_Si (fun z : Int32 => z = s_X4_countByPitches r)) ([.ref (ad 0)] : List Value).toArray s 0 0 (fun _ => False)) (F0 m 11 ls []) := by
          intro K hKx n_11
          induction n_11 with
          | zero => intro y1_11 y3_11 i_11 hi_11 hm_11 hn_11; exact absurd hn_11 (by omega)
          | succ n ih_11 =>
            intro y1_11 y3_11 i_11 hi_11 hm_11 hn_11 ls hl hsp
            rw [s_X4_countByPitches_L11] at hsp
            refine lv_iload_n hx hb dX4_countByPitches_11 rfl (lv_at hl 0 rfl) ?_
            refine lv_bipush (v := 7) hx hb dX4_countByPitches_12 (by decide) ?_
            refine lv_icmp_ge (tgt := 36) hx hb dX4_countByPitches_14 (by decide) (fun c_14 => ?_) (fun c_14 => ?_)
            · replace hsp := (if_pos c_14).symm.trans hsp
              exact hKx y1_11 y3_11 i_11 hi_11 hm_11 ls (lv_sub hl [0, 1, 2, 3] rfl) hsp
            · replace hsp := (if_neg c_14).symm.trans hsp
              have hlt_11 := ft_step hi_11 hm_11 c_14
              refine lv_aload_n hx hb dX4_countByPitches_17 rfl (lv_at hl 3 rfl) ?_
              refine lv_iload_n hx hb dX4_countByPitches_18 rfl (lv_at hl 1 rfl) ?_
              refine lv_iload_n hx hb dX4_countByPitches_19 rfl (lv_at hl 0 rfl) ?_
              refine vp_callSi (va_Run.run (va_runV (As := [.int (y2_4), .int (y3_11)]) (rest := []) ⟨hx, hb, hml, hown, hts⟩ (c_X4_holderOf l dC ad k r y2_4 y3_11) (cwV 2 hts gX4_countByPitches_X4_holderOf rfl rfl rfl (by decide +kernel) ⟨Nat.le_of_ble_eq_true rfl, Nat.le_of_ble_eq_true rfl⟩) (ft_preVc hK hP (ci := 6) rfl (ft_get' (by decide) rfl)) rfl rfl hl.1 rfl (lv_room (Nat.le_of_ble_eq_true rfl)) dX4_countByPitches_20 ⟨Nat.le_of_ble_eq_true rfl, Nat.le_of_ble_eq_true rfl⟩)) (fun z hz => ?_)
              subst hz
              refine lv_iconst (v := (-1)) hx hb dX4_countByPitches_23 (by decide) ?_
              refine lv_icmp_eq (tgt := 30) hx hb dX4_countByPitches_24 (by decide) (fun c_24 => ?_) (fun c_24 => ?_)
              · replace hsp := (if_pos c_24).symm.trans hsp
                refine lv_iinc (v := y3_11 + 1) (lv' := [(3, .int (y3_11 + 1)), (2, .int (y2_4)), (1, .int (y1_11)), (0, .ref (ad 0))]) hx hb dX4_countByPitches_30 hl (k := 0) rfl rfl (by decide) rfl (fun ls hl => ?_)
                refine lv_goto (tgt := 11) hx hb dX4_countByPitches_33 (by decide) ?_
                exact ih_11 y1_11 (y3_11 + 1) (i_11 + 1) (by rw [hi_11, nI_1]) hlt_11 (by omega) ls (lv_sub hl [0, 1, 2, 3] rfl) hsp
              · replace hsp := (if_neg c_24).symm.trans hsp
                refine lv_iinc (v := y1_11 + 1) (lv' := [(1, .int (y1_11 + 1)), (3, .int (y3_11)), (2, .int (y2_4)), (0, .ref (ad 0))]) hx hb dX4_countByPitches_27 hl (k := 2) rfl rfl (by decide) rfl (fun ls hl => ?_)
                refine lv_iinc (v := y3_11 + 1) (lv' := [(3, .int (y3_11 + 1)), (1, .int (y1_11 + 1)), (2, .int (y2_4)), (0, .ref (ad 0))]) hx hb dX4_countByPitches_30 hl (k := 1) rfl rfl (by decide) rfl (fun ls hl => ?_)
                refine lv_goto (tgt := 11) hx hb dX4_countByPitches_33 (by decide) ?_
                exact ih_11 (y1_11 + 1) (y3_11 + 1) (i_11 + 1) (by rw [hi_11, nI_1]) hlt_11 (by omega) ls (lv_sub hl [0, 2, 1, 3] rfl) hsp
        refine loop_11 _ (fun y1_11 y3_11 i_11 hi_11 hm_11 ls hl hsp => ?_) (tn 7 + 1) y1_4 0 0 rfl (by omega) (by omega) ls (lv_sub hl [0, 1, 2, 3] rfl) hsp
        refine lv_iinc (v := y2_4 + 1) (lv' := [(2, .int (y2_4 + 1)), (3, .int (y3_11)), (1, .int (y1_11)), (0, .ref (ad 0))]) hx hb dX4_countByPitches_36 hl (k := 1) rfl rfl (by decide) rfl (fun ls hl => ?_)
        refine lv_goto (tgt := 4) hx hb dX4_countByPitches_39 (by decide) ?_
        exact ih_4 y1_11 (y2_4 + 1) (i_4 + 1) (by rw [hi_4, nI_1]) hlt_4 (by omega) ls (lv_sub hl [0, 2, 3] rfl) hsp
  refine loop_4 _ (fun y1_4 y2_4 i_4 hi_4 hm_4 ls hl hsp => ?_) (tn 5 + 1) 0 0 0 rfl (by omega) (by omega) ls (lv_sub hl [0, 1, 2] rfl) hsp
  refine lv_iload_n hx hb dX4_countByPitches_42 rfl (lv_at hl 1 rfl) ?_
  exact W.iret (v := y1_4) hx hb hr (fun t ht hW => ft_endi (post := fun z : Int32 => z = s_X4_countByPitches r) hsp ht) (fun _ h => absurd h List.not_mem_nil) dX4_countByPitches_43

def s_X4_freeDayFor_L12 (r : Nat → Int32) (x1 : Int32) (K : Int32 → Int32) : Nat → Int32 → Int32
  | 0, y2_12 => K y2_12
  | n + 1, y2_12 => if 7 ≤ y2_12 then (K y2_12) else (if (s_X6_isPermitted r (51 + 17 * (tn x1)) y2_12) = 0 then (s_X4_freeDayFor_L12 r x1 K n (y2_12 + 1)) else (if (s_X4_pitchHeldBy r x1 y2_12) = (-1) then (if (s_X4_pitchHeldBy r (-1) y2_12) = (-1) then (s_X4_freeDayFor_L12 r x1 K n (y2_12 + 1)) else (y2_12)) else (s_X4_freeDayFor_L12 r x1 K n (y2_12 + 1))))
def s_X4_freeDayFor (r : Nat → Int32) (x1 : Int32) : Int32 := if (s_X4_isTruck r x1) = 0 then ((-1)) else (s_X4_freeDayFor_L12 r x1 (fun y2_12 => (-1)) (tn 7 + 1) 0)
set_option maxHeartbeats 4000000 in
set_option maxRecDepth 100000 in
theorem c_X4_freeDayFor (l : Launch) (dC : va_G) (ad : Nat → Nat) (k : Nat → ClassId) (r : Nat → Int32) (x1 : Int32) : Met l yX4_freeDayFor wsX4_freeDayFor ({ frames := 2, cells := 0, slots := 0, locals := 45 }) (ft_Pc dC k [.ref (ad 0), .int x1] (ft_WS ad k r)) (vp_Si (fun z : Int32 => z = s_X4_freeDayFor r x1)) 0 0 (fun _ => False) := by
  refine Met.ofW (cc := cX4_freeDayFor) (maxL := 3) (ret := (some .int)) (by decide) rfl ?_
  intro p e s m args below meth c s₁ B hml hv
  obtain ⟨hargs, hP, hK⟩ := hv
  subst hargs
  have hx := B.exec
  have hb := B.bytes
  have hr := B.returns
  have hts := atoms_spec (ws := wsX4_freeDayFor) B.pre
  have hown : s.vm.findClass RX4 = some m.cls := findClass_of_methodNamed B.named
  have hlocks := B.notSynchronized
  have hl := lv_entry ([.ref (ad 0), .int x1]) (n := 3) (Nat.le_of_ble_eq_true rfl)
  rw [lg_entry_eq]
  generalize (lg_sl ([.ref (ad 0), .int x1]) ++ List.replicate (3 - (lg_sl ([.ref (ad 0), .int x1])).length) Slot.unset).toArray = ls at hl ⊢
  have hl : lv_has ls 3 [(0, .ref (ad 0)), (1, .int (x1))] := hl
  have hsp := (s_X4_freeDayFor.eq_1 r x1).symm
  refine lv_aload_n hx hb dX4_freeDayFor_0 rfl (lv_at hl 0 rfl) ?_
  refine lv_iload_n hx hb dX4_freeDayFor_1 rfl (lv_at hl 1 rfl) ?_
  refine vp_callSi (va_Run.run (va_runV (As := [.int (x1)]) (rest := []) ⟨hx, hb, hml, hown, hts⟩ (c_X4_isTruck l dC ad k r x1) (cwV 1 hts gX4_freeDayFor_X4_isTruck rfl rfl rfl (by decide +kernel) ⟨Nat.le_of_ble_eq_true rfl, Nat.le_of_ble_eq_true rfl⟩) (ft_preVc hK hP (ci := 6) rfl (ft_get' (by decide) rfl)) rfl rfl hl.1 rfl (lv_room (Nat.le_of_ble_eq_true rfl)) dX4_freeDayFor_2 ⟨Nat.le_of_ble_eq_true rfl, Nat.le_of_ble_eq_true rfl⟩)) (fun z hz => ?_)
  subst hz
  refine lv_if_ne (tgt := 10) hx hb dX4_freeDayFor_5 (by decide) (fun c_5 => ?_) (fun c_5 => ?_)
  · replace hsp := (if_neg c_5).symm.trans hsp
    refine lv_iconst (v := 0) hx hb dX4_freeDayFor_10 (by decide) ?_
    refine lv_istore_n (lv' := [(2, .int (0)), (0, .ref (ad 0)), (1, .int (x1))]) hx hb dX4_freeDayFor_11 rfl hl (by decide) rfl (fun ls hl => ?_)
    have loop_12 : ∀ (K : Int32 → Int32) (hKx : ∀ (y2_12 : Int32) (i_12 : Nat) (hi_12 : y2_12 = nI i_12) (hm_12 : i_12 ≤ tn 7) (ls : Array Slot) (hl : lv_has ls 3 [(2, .int (y2_12)), (0, .ref (ad 0)), (1, .int (x1))]) (hsp : K y2_12 = s_X4_freeDayFor r x1), W p l e (headSpec wsX4_freeDayFor ({ frames := 2, cells := 0, slots := 0, locals := 45 })).room s m ([.ref (ad 0), .int x1] : List Value).toArray below meth c s.heap [] 0 0 (MQ below (vp_Si (fun z : Int32 => z = s_X4_freeDayFor r x1)) ([.ref (ad 0), .int x1] : List Value).toArray s 0 0 (fun _ => False)) (F0 m 59 ls [])) (n_12 : Nat), ∀ (y2_12 : Int32) (i_12 : Nat) (hi_12 : y2_12 = nI i_12) (hm_12 : i_12 ≤ tn 7) (hn_12 : tn 7 < n_12 + i_12) (ls : Array Slot) (hl : lv_has ls 3 [(2, .int (y2_12)), (0, .ref (ad 0)), (1, .int (x1))]) (hsp : s_X4_freeDayFor_L12 r x1 K n_12 y2_12 = s_X4_freeDayFor r x1), W p l e (headSpec wsX4_freeDayFor ({ frames := 2, cells := 0, slots := 0, locals := 45 })).room s m ([.ref (ad 0), .int x1] : List Value).toArray below meth c s.heap [] 0 0 (MQ below (vp_Si (fun z : Int32 => z = s_X4_freeDayFor r x1)) ([.ref (ad 0), .int x1] : List Value).toArray s 0 0 (fun _ => False)) (F0 m 12 ls []) := by
      intro K hKx n_12
      induction n_12 with
      | zero => intro y2_12 i_12 hi_12 hm_12 hn_12; exact absurd hn_12 (by omega)
      | succ n ih_12 =>
        intro y2_12 i_12 hi_12 hm_12 hn_12 ls hl hsp
        rw [s_X4_freeDayFor_L12] at hsp
        refine lv_iload_n hx hb dX4_freeDayFor_12 rfl (lv_at hl 0 rfl) ?_
        refine lv_bipush (v := 7) hx hb dX4_freeDayFor_13 (by decide) ?_
        refine lv_icmp_ge (tgt := 59) hx hb dX4_freeDayFor_15 (by decide) (fun c_15 => ?_) (fun c_15 => ?_)
        · replace hsp := (if_pos c_15).symm.trans hsp
          exact hKx y2_12 i_12 hi_12 hm_12 ls (lv_sub hl [0, 1, 2] rfl) hsp
        · replace hsp := (if_neg c_15).symm.trans hsp
          have hlt_12 := ft_step hi_12 hm_12 c_15
          refine lv_aload_n hx hb dX4_freeDayFor_18 rfl (lv_at hl 1 rfl) ?_
          refine va_get (D := dC) (ci := 6) (v := .ref (ad 1)) (C := RX4) (T := TX4) (N := 12) hx hb hts (by decide +kernel) hown hK.1 hP 0 (ft_get' (by decide) rfl) rfl 0 (by decide) (hts (.fieldLink RX4 11 "FoodTruckRota$Square" "trucks" "[LFoodTruckRota$Truck;") (by decide +kernel)) (fun _ h9 => h9) rfl dX4_freeDayFor_19 ?_
          refine lv_iload_n hx hb dX4_freeDayFor_22 rfl (lv_at hl 2 rfl) ?_
          have h_23 : vp_in x1 6 := by first | assumption | exact isTruck_in (by assumption) | exact isDish_in (by assumption)
          refine va_aldq (C := RX6) hx hb hK.1 hP 1 1 (ft_get' (by decide) rfl) rfl h_23 dX4_freeDayFor_23 ?_
          refine W.eq (g2 := F0 m 24 ls [.ref (ft_at ad (tn x1) 0)]) rfl ?_
          refine lv_iload_n hx hb dX4_freeDayFor_24 rfl (lv_at hl 0 rfl) ?_
          refine vp_callSi (va_Run.run (va_runV (As := [.int (y2_12)]) (rest := []) ⟨hx, hb, hml, hown, hts⟩ (c_X6_isPermitted l dC (ft_at ad (tn x1)) k r (51 + 17 * (tn x1)) y2_12) (cwV 1 hts gX4_freeDayFor_X6_isPermitted rfl rfl rfl (by decide +kernel) ⟨Nat.le_of_ble_eq_true rfl, Nat.le_of_ble_eq_true rfl⟩) (ft_preVc hK (ft_S_P hP (ft_tn h_23)) (ci := 8) rfl (ft_get' (by decide) rfl)) rfl rfl hl.1 rfl (lv_room (Nat.le_of_ble_eq_true rfl)) dX4_freeDayFor_25 ⟨Nat.le_of_ble_eq_true rfl, Nat.le_of_ble_eq_true rfl⟩)) (fun z hz => ?_)
          subst hz
          refine lv_if_eq (tgt := 53) hx hb dX4_freeDayFor_28 (by decide) (fun c_28 => ?_) (fun c_28 => ?_)
          · replace hsp := (if_pos c_28).symm.trans hsp
            refine lv_iinc (v := y2_12 + 1) (lv' := [(2, .int (y2_12 + 1)), (0, .ref (ad 0)), (1, .int (x1))]) hx hb dX4_freeDayFor_53 hl (k := 0) rfl rfl (by decide) rfl (fun ls hl => ?_)
            refine lv_goto (tgt := 12) hx hb dX4_freeDayFor_56 (by decide) ?_
            exact ih_12 (y2_12 + 1) (i_12 + 1) (by rw [hi_12, nI_1]) hlt_12 (by omega) ls (lv_sub hl [0, 1, 2] rfl) hsp
          · replace hsp := (if_neg c_28).symm.trans hsp
            refine lv_aload_n hx hb dX4_freeDayFor_31 rfl (lv_at hl 1 rfl) ?_
            refine lv_iload_n hx hb dX4_freeDayFor_32 rfl (lv_at hl 2 rfl) ?_
            refine lv_iload_n hx hb dX4_freeDayFor_33 rfl (lv_at hl 0 rfl) ?_
            refine vp_callSi (va_Run.run (va_runV (As := [.int (x1), .int (y2_12)]) (rest := []) ⟨hx, hb, hml, hown, hts⟩ (c_X4_pitchHeldBy l dC ad k r x1 y2_12) (cwV 2 hts gX4_freeDayFor_X4_pitchHeldBy rfl rfl rfl (by decide +kernel) ⟨Nat.le_of_ble_eq_true rfl, Nat.le_of_ble_eq_true rfl⟩) (ft_preVc hK hP (ci := 6) rfl (ft_get' (by decide) rfl)) rfl rfl hl.1 rfl (lv_room (Nat.le_of_ble_eq_true rfl)) dX4_freeDayFor_34 ⟨Nat.le_of_ble_eq_true rfl, Nat.le_of_ble_eq_true rfl⟩)) (fun z hz => ?_)
            subst hz
            refine lv_iconst (v := (-1)) hx hb dX4_freeDayFor_37 (by decide) ?_
            refine lv_icmp_ne (tgt := 53) hx hb dX4_freeDayFor_38 (by decide) (fun c_38 => ?_) (fun c_38 => ?_)
            · replace hsp := (if_neg c_38).symm.trans hsp
              refine lv_iinc (v := y2_12 + 1) (lv' := [(2, .int (y2_12 + 1)), (0, .ref (ad 0)), (1, .int (x1))]) hx hb dX4_freeDayFor_53 hl (k := 0) rfl rfl (by decide) rfl (fun ls hl => ?_)
              refine lv_goto (tgt := 12) hx hb dX4_freeDayFor_56 (by decide) ?_
              exact ih_12 (y2_12 + 1) (i_12 + 1) (by rw [hi_12, nI_1]) hlt_12 (by omega) ls (lv_sub hl [0, 1, 2] rfl) hsp
            · replace hsp := (if_pos c_38).symm.trans hsp
              refine lv_aload_n hx hb dX4_freeDayFor_41 rfl (lv_at hl 1 rfl) ?_
              refine lv_iconst (v := (-1)) hx hb dX4_freeDayFor_42 (by decide) ?_
              refine lv_iload_n hx hb dX4_freeDayFor_43 rfl (lv_at hl 0 rfl) ?_
              refine vp_callSi (va_Run.run (va_runV (As := [.int ((-1)), .int (y2_12)]) (rest := []) ⟨hx, hb, hml, hown, hts⟩ (c_X4_pitchHeldBy l dC ad k r (-1) y2_12) (cwV 2 hts gX4_freeDayFor_X4_pitchHeldBy rfl rfl rfl (by decide +kernel) ⟨Nat.le_of_ble_eq_true rfl, Nat.le_of_ble_eq_true rfl⟩) (ft_preVc hK hP (ci := 6) rfl (ft_get' (by decide) rfl)) rfl rfl hl.1 rfl (lv_room (Nat.le_of_ble_eq_true rfl)) dX4_freeDayFor_44 ⟨Nat.le_of_ble_eq_true rfl, Nat.le_of_ble_eq_true rfl⟩)) (fun z hz => ?_)
              subst hz
              refine lv_iconst (v := (-1)) hx hb dX4_freeDayFor_47 (by decide) ?_
              refine lv_icmp_eq (tgt := 53) hx hb dX4_freeDayFor_48 (by decide) (fun c_48 => ?_) (fun c_48 => ?_)
              · replace hsp := (if_pos c_48).symm.trans hsp
                refine lv_iinc (v := y2_12 + 1) (lv' := [(2, .int (y2_12 + 1)), (0, .ref (ad 0)), (1, .int (x1))]) hx hb dX4_freeDayFor_53 hl (k := 0) rfl rfl (by decide) rfl (fun ls hl => ?_)
                refine lv_goto (tgt := 12) hx hb dX4_freeDayFor_56 (by decide) ?_
                exact ih_12 (y2_12 + 1) (i_12 + 1) (by rw [hi_12, nI_1]) hlt_12 (by omega) ls (lv_sub hl [0, 1, 2] rfl) hsp
              · replace hsp := (if_neg c_48).symm.trans hsp
                refine lv_iload_n hx hb dX4_freeDayFor_51 rfl (lv_at hl 0 rfl) ?_
                exact W.iret (v := y2_12) hx hb hr (fun t ht hW => ft_endi (post := fun z : Int32 => z = s_X4_freeDayFor r x1) hsp ht) (fun _ h => absurd h List.not_mem_nil) dX4_freeDayFor_52
    refine loop_12 _ (fun y2_12 i_12 hi_12 hm_12 ls hl hsp => ?_) (tn 7 + 1) 0 0 rfl (by omega) (by omega) ls (lv_sub hl [0, 1, 2] rfl) hsp
    refine lv_iconst (v := (-1)) hx hb dX4_freeDayFor_59 (by decide) ?_
    exact W.iret (v := (-1)) hx hb hr (fun t ht hW => ft_endi (post := fun z : Int32 => z = s_X4_freeDayFor r x1) hsp ht) (fun _ h => absurd h List.not_mem_nil) dX4_freeDayFor_60
  · replace hsp := (if_pos c_5).symm.trans hsp
    refine lv_iconst (v := (-1)) hx hb dX4_freeDayFor_8 (by decide) ?_
    exact W.iret (v := (-1)) hx hb hr (fun t ht hW => ft_endi (post := fun z : Int32 => z = s_X4_freeDayFor r x1) hsp ht) (fun _ h => absurd h List.not_mem_nil) dX4_freeDayFor_9

def s_X4_everyHolderIsPermitted_L9 (r : Nat → Int32)  (y1_2 : Int32) (K : Int32 → Int32) : Nat → Int32 → Int32
  | 0, y2_9 => K y2_9
  | n + 1, y2_9 => if 7 ≤ y2_9 then (K y2_9) else (if (s_X4_holderOf r y1_2 y2_9) = (-1) then (s_X4_everyHolderIsPermitted_L9 r y1_2 K n (y2_9 + 1)) else (if (s_X4_isTruck r (s_X4_holderOf r y1_2 y2_9)) = 0 then (0) else (if (s_X6_isPermitted r (51 + 17 * (tn (s_X4_holderOf r y1_2 y2_9))) y2_9) = 0 then (0) else (s_X4_everyHolderIsPermitted_L9 r y1_2 K n (y2_9 + 1)))))
def s_X4_everyHolderIsPermitted_L2 (r : Nat → Int32)  (K : Int32 → Int32) : Nat → Int32 → Int32
  | 0, y1_2 => K y1_2
  | n + 1, y1_2 => if 5 ≤ y1_2 then (K y1_2) else (s_X4_everyHolderIsPermitted_L9 r y1_2 (fun y2_9 => s_X4_everyHolderIsPermitted_L2 r K n (y1_2 + 1)) (tn 7 + 1) 0)
def s_X4_everyHolderIsPermitted (r : Nat → Int32)  : Int32 := s_X4_everyHolderIsPermitted_L2 r (fun y1_2 => 1) (tn 5 + 1) 0
set_option maxHeartbeats 4000000 in
set_option maxRecDepth 100000 in
theorem c_X4_everyHolderIsPermitted (l : Launch) (dC : va_G) (ad : Nat → Nat) (k : Nat → ClassId) (r : Nat → Int32)  : Met l yX4_everyHolderIsPermitted wsX4_everyHolderIsPermitted ({ frames := 2, cells := 0, slots := 0, locals := 41 }) (ft_Pc dC k [.ref (ad 0)] (ft_WS ad k r)) (vp_Si (fun z : Int32 => z = s_X4_everyHolderIsPermitted r)) 0 0 (fun _ => False) := by
  refine Met.ofW (cc := cX4_everyHolderIsPermitted) (maxL := 4) (ret := (some .boolean)) (by decide) rfl ?_
  intro p e s m args below meth c s₁ B hml hv
  obtain ⟨hargs, hP, hK⟩ := hv
  subst hargs
  have hx := B.exec
  have hb := B.bytes
  have hr := B.returns
  have hts := atoms_spec (ws := wsX4_everyHolderIsPermitted) B.pre
  have hown : s.vm.findClass RX4 = some m.cls := findClass_of_methodNamed B.named
  have hlocks := B.notSynchronized
  have hl := lv_entry ([.ref (ad 0)]) (n := 4) (Nat.le_of_ble_eq_true rfl)
  rw [lg_entry_eq]
  generalize (lg_sl ([.ref (ad 0)]) ++ List.replicate (4 - (lg_sl ([.ref (ad 0)])).length) Slot.unset).toArray = ls at hl ⊢
  have hl : lv_has ls 4 [(0, .ref (ad 0))] := hl
  have hsp := (s_X4_everyHolderIsPermitted.eq_1 r ).symm
  refine lv_iconst (v := 0) hx hb dX4_everyHolderIsPermitted_0 (by decide) ?_
  refine lv_istore_n (lv' := [(1, .int (0)), (0, .ref (ad 0))]) hx hb dX4_everyHolderIsPermitted_1 rfl hl (by decide) rfl (fun ls hl => ?_)
  have loop_2 : ∀ (K : Int32 → Int32) (hKx : ∀ (y1_2 : Int32) (i_2 : Nat) (hi_2 : y1_2 = nI i_2) (hm_2 : i_2 ≤ tn 5) (ls : Array Slot) (hl : lv_has ls 4 [(1, .int (y1_2)), (0, .ref (ad 0))]) (hsp : K y1_2 = s_X4_everyHolderIsPermitted r), W p l e (headSpec wsX4_everyHolderIsPermitted ({ frames := 2, cells := 0, slots := 0, locals := 41 })).room s m ([.ref (ad 0)] : List Value).toArray below meth c s.heap [] 0 0 (MQ below (vp_Si (fun z : Int32 => z = s_X4_everyHolderIsPermitted r)) ([.ref (ad 0)] : List Value).toArray s 0 0 (fun _ => False)) (F0 m 62 ls [])) (n_2 : Nat), ∀ (y1_2 : Int32) (i_2 : Nat) (hi_2 : y1_2 = nI i_2) (hm_2 : i_2 ≤ tn 5) (hn_2 : tn 5 < n_2 + i_2) (ls : Array Slot) (hl : lv_has ls 4 [(1, .int (y1_2)), (0, .ref (ad 0))]) (hsp : s_X4_everyHolderIsPermitted_L2 r K n_2 y1_2 = s_X4_everyHolderIsPermitted r), W p l e (headSpec wsX4_everyHolderIsPermitted ({ frames := 2, cells := 0, slots := 0, locals := 41 })).room s m ([.ref (ad 0)] : List Value).toArray below meth c s.heap [] 0 0 (MQ below (vp_Si (fun z : Int32 => z = s_X4_everyHolderIsPermitted r)) ([.ref (ad 0)] : List Value).toArray s 0 0 (fun _ => False)) (F0 m 2 ls []) := by
    intro K hKx n_2
    induction n_2 with
    | zero => intro y1_2 i_2 hi_2 hm_2 hn_2; exact absurd hn_2 (by omega)
    | succ n ih_2 =>
      intro y1_2 i_2 hi_2 hm_2 hn_2 ls hl hsp
      rw [s_X4_everyHolderIsPermitted_L2] at hsp
      refine lv_iload_n hx hb dX4_everyHolderIsPermitted_2 rfl (lv_at hl 0 rfl) ?_
      refine lv_iconst (v := 5) hx hb dX4_everyHolderIsPermitted_3 (by decide) ?_
      refine lv_icmp_ge (tgt := 62) hx hb dX4_everyHolderIsPermitted_4 (by decide) (fun c_4 => ?_) (fun c_4 => ?_)
      · replace hsp := (if_pos c_4).symm.trans hsp
        exact hKx y1_2 i_2 hi_2 hm_2 ls (lv_sub hl [0, 1] rfl) hsp
      · replace hsp := (if_neg c_4).symm.trans hsp
        have hlt_2 := ft_step hi_2 hm_2 c_4
        refine lv_iconst (v := 0) hx hb dX4_everyHolderIsPermitted_7 (by decide) ?_
        refine lv_istore_n (lv' := [(2, .int (0)), (1, .int (y1_2)), (0, .ref (ad 0))]) hx hb dX4_everyHolderIsPermitted_8 rfl hl (by decide) rfl (fun ls hl => ?_)
        have loop_9 : ∀ (K : Int32 → Int32) (hKx : ∀ (y2_9 : Int32) (i_9 : Nat) (hi_9 : y2_9 = nI i_9) (hm_9 : i_9 ≤ tn 7) (ls : Array Slot) (hl : lv_has ls 4 [(2, .int (y2_9)), (1, .int (y1_2)), (0, .ref (ad 0))]) (hsp : K y2_9 = s_X4_everyHolderIsPermitted r), W p l e (headSpec wsX4_everyHolderIsPermitted ({ frames := 2, cells := 0, slots := 0, locals := 41 })).room s m ([.ref (ad 0)] : List Value).toArray below meth c s.heap [] 0 0 (MQ below (vp_Si (fun z : Int32 => z = s_X4_everyHolderIsPermitted r)) ([.ref (ad 0)] : List Value).toArray s 0 0 (fun _ => False)) (F0 m 56 ls [])) (n_9 : Nat), ∀ (y2_9 : Int32) (i_9 : Nat) (hi_9 : y2_9 = nI i_9) (hm_9 : i_9 ≤ tn 7) (hn_9 : tn 7 < n_9 + i_9) (ls : Array Slot) (hl : lv_has ls 4 [(2, .int (y2_9)), (1, .int (y1_2)), (0, .ref (ad 0))]) (hsp : s_X4_everyHolderIsPermitted_L9 r y1_2 K n_9 y2_9 = s_X4_everyHolderIsPermitted r), W p l e (headSpec wsX4_everyHolderIsPermitted ({ frames := 2, cells := 0, slots := 0, locals := 41 })).room s m ([.ref (ad 0)] : List Value).toArray below meth c s.heap [] 0 0 (MQ below (vp_Si (fun z : Int32 => z = s_X4_everyHolderIsPermitted r)) ([.ref (ad 0)] : List Value).toArray s 0 0 (fun _ => False)) (F0 m 9 ls []) := by
          intro K hKx n_9
          induction n_9 with
          | zero => intro y2_9 i_9 hi_9 hm_9 hn_9; exact absurd hn_9 (by omega)
          | succ n ih_9 =>
            intro y2_9 i_9 hi_9 hm_9 hn_9 ls hl hsp
            rw [s_X4_everyHolderIsPermitted_L9] at hsp
            refine lv_iload_n hx hb dX4_everyHolderIsPermitted_9 rfl (lv_at hl 0 rfl) ?_
            refine lv_bipush (v := 7) hx hb dX4_everyHolderIsPermitted_10 (by decide) ?_
            refine lv_icmp_ge (tgt := 56) hx hb dX4_everyHolderIsPermitted_12 (by decide) (fun c_12 => ?_) (fun c_12 => ?_)
            · replace hsp := (if_pos c_12).symm.trans hsp
              exact hKx y2_9 i_9 hi_9 hm_9 ls (lv_sub hl [0, 1, 2] rfl) hsp
            · replace hsp := (if_neg c_12).symm.trans hsp
              have hlt_9 := ft_step hi_9 hm_9 c_12
              refine lv_aload_n hx hb dX4_everyHolderIsPermitted_15 rfl (lv_at hl 2 rfl) ?_
              refine lv_iload_n hx hb dX4_everyHolderIsPermitted_16 rfl (lv_at hl 1 rfl) ?_
              refine lv_iload_n hx hb dX4_everyHolderIsPermitted_17 rfl (lv_at hl 0 rfl) ?_
              refine vp_callSi (va_Run.run (va_runV (As := [.int (y1_2), .int (y2_9)]) (rest := []) ⟨hx, hb, hml, hown, hts⟩ (c_X4_holderOf l dC ad k r y1_2 y2_9) (cwV 2 hts gX4_everyHolderIsPermitted_X4_holderOf rfl rfl rfl (by decide +kernel) ⟨Nat.le_of_ble_eq_true rfl, Nat.le_of_ble_eq_true rfl⟩) (ft_preVc hK hP (ci := 6) rfl (ft_get' (by decide) rfl)) rfl rfl hl.1 rfl (lv_room (Nat.le_of_ble_eq_true rfl)) dX4_everyHolderIsPermitted_18 ⟨Nat.le_of_ble_eq_true rfl, Nat.le_of_ble_eq_true rfl⟩)) (fun z hz => ?_)
              subst hz
              refine lv_istore_n (lv' := [(3, .int ((s_X4_holderOf r y1_2 y2_9))), (2, .int (y2_9)), (1, .int (y1_2)), (0, .ref (ad 0))]) hx hb dX4_everyHolderIsPermitted_21 rfl hl (by decide) rfl (fun ls hl => ?_)
              refine lv_iload_n hx hb dX4_everyHolderIsPermitted_22 rfl (lv_at hl 0 rfl) ?_
              refine lv_iconst (v := (-1)) hx hb dX4_everyHolderIsPermitted_23 (by decide) ?_
              refine lv_icmp_eq (tgt := 50) hx hb dX4_everyHolderIsPermitted_24 (by decide) (fun c_24 => ?_) (fun c_24 => ?_)
              · replace hsp := (if_pos c_24).symm.trans hsp
                refine lv_iinc (v := y2_9 + 1) (lv' := [(2, .int (y2_9 + 1)), (3, .int ((s_X4_holderOf r y1_2 y2_9))), (1, .int (y1_2)), (0, .ref (ad 0))]) hx hb dX4_everyHolderIsPermitted_50 hl (k := 1) rfl rfl (by decide) rfl (fun ls hl => ?_)
                refine lv_goto (tgt := 9) hx hb dX4_everyHolderIsPermitted_53 (by decide) ?_
                exact ih_9 (y2_9 + 1) (i_9 + 1) (by rw [hi_9, nI_1]) hlt_9 (by omega) ls (lv_sub hl [0, 2, 3] rfl) hsp
              · replace hsp := (if_neg c_24).symm.trans hsp
                refine lv_aload_n hx hb dX4_everyHolderIsPermitted_27 rfl (lv_at hl 3 rfl) ?_
                refine lv_iload_n hx hb dX4_everyHolderIsPermitted_28 rfl (lv_at hl 0 rfl) ?_
                refine vp_callSi (va_Run.run (va_runV (As := [.int ((s_X4_holderOf r y1_2 y2_9))]) (rest := []) ⟨hx, hb, hml, hown, hts⟩ (c_X4_isTruck l dC ad k r (s_X4_holderOf r y1_2 y2_9)) (cwV 1 hts gX4_everyHolderIsPermitted_X4_isTruck rfl rfl rfl (by decide +kernel) ⟨Nat.le_of_ble_eq_true rfl, Nat.le_of_ble_eq_true rfl⟩) (ft_preVc hK hP (ci := 6) rfl (ft_get' (by decide) rfl)) rfl rfl hl.1 rfl (lv_room (Nat.le_of_ble_eq_true rfl)) dX4_everyHolderIsPermitted_29 ⟨Nat.le_of_ble_eq_true rfl, Nat.le_of_ble_eq_true rfl⟩)) (fun z hz => ?_)
                subst hz
                refine lv_if_eq (tgt := 48) hx hb dX4_everyHolderIsPermitted_32 (by decide) (fun c_32 => ?_) (fun c_32 => ?_)
                · replace hsp := (if_pos c_32).symm.trans hsp
                  refine lv_iconst (v := 0) hx hb dX4_everyHolderIsPermitted_48 (by decide) ?_
                  exact W.zret (v := 0) hx hb hr (rfl) (fun t ht hW => ft_endi (post := fun z : Int32 => z = s_X4_everyHolderIsPermitted r) hsp ht) (fun _ h => absurd h List.not_mem_nil) dX4_everyHolderIsPermitted_49
                · replace hsp := (if_neg c_32).symm.trans hsp
                  refine lv_aload_n hx hb dX4_everyHolderIsPermitted_35 rfl (lv_at hl 3 rfl) ?_
                  refine va_get (D := dC) (ci := 6) (v := .ref (ad 1)) (C := RX4) (T := TX4) (N := 12) hx hb hts (by decide +kernel) hown hK.1 hP 0 (ft_get' (by decide) rfl) rfl 0 (by decide) (hts (.fieldLink RX4 11 "FoodTruckRota$Square" "trucks" "[LFoodTruckRota$Truck;") (by decide +kernel)) (fun _ h9 => h9) rfl dX4_everyHolderIsPermitted_36 ?_
                  refine lv_iload_n hx hb dX4_everyHolderIsPermitted_39 rfl (lv_at hl 0 rfl) ?_
                  have h_40 : vp_in (s_X4_holderOf r y1_2 y2_9) 6 := by first | assumption | exact isTruck_in (by assumption) | exact isDish_in (by assumption)
                  refine va_aldq (C := RX6) hx hb hK.1 hP 1 1 (ft_get' (by decide) rfl) rfl h_40 dX4_everyHolderIsPermitted_40 ?_
                  refine W.eq (g2 := F0 m 41 ls [.ref (ft_at ad (tn (s_X4_holderOf r y1_2 y2_9)) 0)]) rfl ?_
                  refine lv_iload_n hx hb dX4_everyHolderIsPermitted_41 rfl (lv_at hl 1 rfl) ?_
                  refine vp_callSi (va_Run.run (va_runV (As := [.int (y2_9)]) (rest := []) ⟨hx, hb, hml, hown, hts⟩ (c_X6_isPermitted l dC (ft_at ad (tn (s_X4_holderOf r y1_2 y2_9))) k r (51 + 17 * (tn (s_X4_holderOf r y1_2 y2_9))) y2_9) (cwV 1 hts gX4_everyHolderIsPermitted_X6_isPermitted rfl rfl rfl (by decide +kernel) ⟨Nat.le_of_ble_eq_true rfl, Nat.le_of_ble_eq_true rfl⟩) (ft_preVc hK (ft_S_P hP (ft_tn h_40)) (ci := 8) rfl (ft_get' (by decide) rfl)) rfl rfl hl.1 rfl (lv_room (Nat.le_of_ble_eq_true rfl)) dX4_everyHolderIsPermitted_42 ⟨Nat.le_of_ble_eq_true rfl, Nat.le_of_ble_eq_true rfl⟩)) (fun z hz => ?_)
                  subst hz
                  refine lv_if_ne (tgt := 50) hx hb dX4_everyHolderIsPermitted_45 (by decide) (fun c_45 => ?_) (fun c_45 => ?_)
                  · replace hsp := (if_neg c_45).symm.trans hsp
                    refine lv_iinc (v := y2_9 + 1) (lv' := [(2, .int (y2_9 + 1)), (3, .int ((s_X4_holderOf r y1_2 y2_9))), (1, .int (y1_2)), (0, .ref (ad 0))]) hx hb dX4_everyHolderIsPermitted_50 hl (k := 1) rfl rfl (by decide) rfl (fun ls hl => ?_)
                    refine lv_goto (tgt := 9) hx hb dX4_everyHolderIsPermitted_53 (by decide) ?_
                    exact ih_9 (y2_9 + 1) (i_9 + 1) (by rw [hi_9, nI_1]) hlt_9 (by omega) ls (lv_sub hl [0, 2, 3] rfl) hsp
                  · replace hsp := (if_pos c_45).symm.trans hsp
                    refine lv_iconst (v := 0) hx hb dX4_everyHolderIsPermitted_48 (by decide) ?_
                    exact W.zret (v := 0) hx hb hr (rfl) (fun t ht hW => ft_endi (post := fun z : Int32 => z = s_X4_everyHolderIsPermitted r) hsp ht) (fun _ h => absurd h List.not_mem_nil) dX4_everyHolderIsPermitted_49
        refine loop_9 _ (fun y2_9 i_9 hi_9 hm_9 ls hl hsp => ?_) (tn 7 + 1) 0 0 rfl (by omega) (by omega) ls (lv_sub hl [0, 1, 2] rfl) hsp
        refine lv_iinc (v := y1_2 + 1) (lv' := [(1, .int (y1_2 + 1)), (2, .int (y2_9)), (0, .ref (ad 0))]) hx hb dX4_everyHolderIsPermitted_56 hl (k := 1) rfl rfl (by decide) rfl (fun ls hl => ?_)
        refine lv_goto (tgt := 2) hx hb dX4_everyHolderIsPermitted_59 (by decide) ?_
        exact ih_2 (y1_2 + 1) (i_2 + 1) (by rw [hi_2, nI_1]) hlt_2 (by omega) ls (lv_sub hl [0, 2] rfl) hsp
  refine loop_2 _ (fun y1_2 i_2 hi_2 hm_2 ls hl hsp => ?_) (tn 5 + 1) 0 0 rfl (by omega) (by omega) ls (lv_sub hl [0, 1] rfl) hsp
  refine lv_iconst (v := 1) hx hb dX4_everyHolderIsPermitted_62 (by decide) ?_
  exact W.zret (v := 1) hx hb hr (rfl) (fun t ht hW => ft_endi (post := fun z : Int32 => z = s_X4_everyHolderIsPermitted r) hsp ht) (fun _ h => absurd h List.not_mem_nil) dX4_everyHolderIsPermitted_63

def s_X4_sumOfCoins_L4 (r : Nat → Int32)  (K : Int32 → Int32 → Int32) : Nat → Int32 → Int32 → Int32
  | 0, y1_4, y2_4 => K y1_4 y2_4
  | n + 1, y1_4, y2_4 => if 6 ≤ y2_4 then (K y1_4 y2_4) else (s_X4_sumOfCoins_L4 r K n (y1_4 + (r (51 + 17 * (tn y2_4) + 0))) (y2_4 + 1))
def s_X4_sumOfCoins (r : Nat → Int32)  : Int32 := s_X4_sumOfCoins_L4 r (fun y1_4 y2_4 => y1_4) (tn 6 + 1) 0 0
set_option maxHeartbeats 4000000 in
set_option maxRecDepth 100000 in
theorem c_X4_sumOfCoins (l : Launch) (dC : va_G) (ad : Nat → Nat) (k : Nat → ClassId) (r : Nat → Int32)  : Met l yX4_sumOfCoins wsX4_sumOfCoins ({ frames := 0, cells := 0, slots := 0, locals := 0 }) (ft_Pc dC k [.ref (ad 0)] (ft_WS ad k r)) (vp_Si (fun z : Int32 => z = s_X4_sumOfCoins r)) 0 0 (fun _ => False) := by
  refine Met.ofW (cc := cX4_sumOfCoins) (maxL := 3) (ret := (some .int)) (by decide) rfl ?_
  intro p e s m args below meth c s₁ B hml hv
  obtain ⟨hargs, hP, hK⟩ := hv
  subst hargs
  have hx := B.exec
  have hb := B.bytes
  have hr := B.returns
  have hts := atoms_spec (ws := wsX4_sumOfCoins) B.pre
  have hown : s.vm.findClass RX4 = some m.cls := findClass_of_methodNamed B.named
  have hlocks := B.notSynchronized
  have hl := lv_entry ([.ref (ad 0)]) (n := 3) (Nat.le_of_ble_eq_true rfl)
  rw [lg_entry_eq]
  generalize (lg_sl ([.ref (ad 0)]) ++ List.replicate (3 - (lg_sl ([.ref (ad 0)])).length) Slot.unset).toArray = ls at hl ⊢
  have hl : lv_has ls 3 [(0, .ref (ad 0))] := hl
  have hsp := (s_X4_sumOfCoins.eq_1 r ).symm
  refine lv_iconst (v := 0) hx hb dX4_sumOfCoins_0 (by decide) ?_
  refine lv_istore_n (lv' := [(1, .int (0)), (0, .ref (ad 0))]) hx hb dX4_sumOfCoins_1 rfl hl (by decide) rfl (fun ls hl => ?_)
  refine lv_iconst (v := 0) hx hb dX4_sumOfCoins_2 (by decide) ?_
  refine lv_istore_n (lv' := [(2, .int (0)), (1, .int (0)), (0, .ref (ad 0))]) hx hb dX4_sumOfCoins_3 rfl hl (by decide) rfl (fun ls hl => ?_)
  have loop_4 : ∀ (K : Int32 → Int32 → Int32) (hKx : ∀ (y1_4 : Int32) (y2_4 : Int32) (i_4 : Nat) (hi_4 : y2_4 = nI i_4) (hm_4 : i_4 ≤ tn 6) (ls : Array Slot) (hl : lv_has ls 3 [(2, .int (y2_4)), (1, .int (y1_4)), (0, .ref (ad 0))]) (hsp : K y1_4 y2_4 = s_X4_sumOfCoins r), W p l e (headSpec wsX4_sumOfCoins ({ frames := 0, cells := 0, slots := 0, locals := 0 })).room s m ([.ref (ad 0)] : List Value).toArray below meth c s.heap [] 0 0 (MQ below (vp_Si (fun z : Int32 => z = s_X4_sumOfCoins r)) ([.ref (ad 0)] : List Value).toArray s 0 0 (fun _ => False)) (F0 m 28 ls [])) (n_4 : Nat), ∀ (y1_4 : Int32) (y2_4 : Int32) (i_4 : Nat) (hi_4 : y2_4 = nI i_4) (hm_4 : i_4 ≤ tn 6) (hn_4 : tn 6 < n_4 + i_4) (ls : Array Slot) (hl : lv_has ls 3 [(2, .int (y2_4)), (1, .int (y1_4)), (0, .ref (ad 0))]) (hsp : s_X4_sumOfCoins_L4 r K n_4 y1_4 y2_4 = s_X4_sumOfCoins r), W p l e (headSpec wsX4_sumOfCoins ({ frames := 0, cells := 0, slots := 0, locals := 0 })).room s m ([.ref (ad 0)] : List Value).toArray below meth c s.heap [] 0 0 (MQ below (vp_Si (fun z : Int32 => z = s_X4_sumOfCoins r)) ([.ref (ad 0)] : List Value).toArray s 0 0 (fun _ => False)) (F0 m 4 ls []) := by
    intro K hKx n_4
    induction n_4 with
    | zero => intro y1_4 y2_4 i_4 hi_4 hm_4 hn_4; exact absurd hn_4 (by omega)
    | succ n ih_4 =>
      intro y1_4 y2_4 i_4 hi_4 hm_4 hn_4 ls hl hsp
      rw [s_X4_sumOfCoins_L4] at hsp
      refine lv_iload_n hx hb dX4_sumOfCoins_4 rfl (lv_at hl 0 rfl) ?_
      refine lv_bipush (v := 6) hx hb dX4_sumOfCoins_5 (by decide) ?_
      refine lv_icmp_ge (tgt := 28) hx hb dX4_sumOfCoins_7 (by decide) (fun c_7 => ?_) (fun c_7 => ?_)
      · replace hsp := (if_pos c_7).symm.trans hsp
        exact hKx y1_4 y2_4 i_4 hi_4 hm_4 ls (lv_sub hl [0, 1, 2] rfl) hsp
      · replace hsp := (if_neg c_7).symm.trans hsp
        have hlt_4 := ft_step hi_4 hm_4 c_7
        refine lv_iload_n hx hb dX4_sumOfCoins_10 rfl (lv_at hl 1 rfl) ?_
        refine lv_aload_n hx hb dX4_sumOfCoins_11 rfl (lv_at hl 2 rfl) ?_
        refine va_get (D := dC) (ci := 6) (v := .ref (ad 1)) (C := RX4) (T := TX4) (N := 12) hx hb hts (by decide +kernel) hown hK.1 hP 0 (ft_get' (by decide) rfl) rfl 0 (by decide) (hts (.fieldLink RX4 11 "FoodTruckRota$Square" "trucks" "[LFoodTruckRota$Truck;") (by decide +kernel)) (fun _ h9 => h9) rfl dX4_sumOfCoins_12 ?_
        refine lv_iload_n hx hb dX4_sumOfCoins_15 rfl (lv_at hl 0 rfl) ?_
        have h_16 : vp_in y2_4 6 := by exact ft_vin hi_4 hlt_4
        refine va_aldq (C := RX6) hx hb hK.1 hP 1 1 (ft_get' (by decide) rfl) rfl h_16 dX4_sumOfCoins_16 ?_
        refine W.eq (g2 := F0 m 17 ls [.ref (ft_at ad (tn y2_4) 0), .int (y1_4)]) rfl ?_
        refine va_getN (D := dC) (ci := 8) (v := .int (r (51 + 17 * (tn y2_4) + 0))) (C := RX6) (T := TX6) (N := 6) hx hb hts (by decide +kernel) hown hK.1 (ft_S_P hP (ft_tn h_16)) 0 (ft_get' (by decide) rfl) rfl 4 (by decide) (ft_nl hK.2 6 rfl) (fun _ h9 => h9) rfl dX4_sumOfCoins_17 ?_
        refine lv_iadd hx hb dX4_sumOfCoins_20 ?_
        refine lv_istore_n (lv' := [(1, .int (y1_4 + (r (51 + 17 * (tn y2_4) + 0)))), (2, .int (y2_4)), (0, .ref (ad 0))]) hx hb dX4_sumOfCoins_21 rfl hl (by decide) rfl (fun ls hl => ?_)
        refine lv_iinc (v := y2_4 + 1) (lv' := [(2, .int (y2_4 + 1)), (1, .int (y1_4 + (r (51 + 17 * (tn y2_4) + 0)))), (0, .ref (ad 0))]) hx hb dX4_sumOfCoins_22 hl (k := 1) rfl rfl (by decide) rfl (fun ls hl => ?_)
        refine lv_goto (tgt := 4) hx hb dX4_sumOfCoins_25 (by decide) ?_
        exact ih_4 (y1_4 + (r (51 + 17 * (tn y2_4) + 0))) (y2_4 + 1) (i_4 + 1) (by rw [hi_4, nI_1]) hlt_4 (by omega) ls (lv_sub hl [0, 1, 2] rfl) hsp
  refine loop_4 _ (fun y1_4 y2_4 i_4 hi_4 hm_4 ls hl hsp => ?_) (tn 6 + 1) 0 0 0 rfl (by omega) (by omega) ls (lv_sub hl [0, 1, 2] rfl) hsp
  refine lv_iload_n hx hb dX4_sumOfCoins_28 rfl (lv_at hl 1 rfl) ?_
  exact W.iret (v := y1_4) hx hb hr (fun t ht hW => ft_endi (post := fun z : Int32 => z = s_X4_sumOfCoins r) hsp ht) (fun _ h => absurd h List.not_mem_nil) dX4_sumOfCoins_29

def s_X4_sumOfQueues_L4 (r : Nat → Int32)  (K : Int32 → Int32 → Int32) : Nat → Int32 → Int32 → Int32
  | 0, y1_4, y2_4 => K y1_4 y2_4
  | n + 1, y1_4, y2_4 => if 6 ≤ y2_4 then (K y1_4 y2_4) else (s_X4_sumOfQueues_L4 r K n (y1_4 + (r (51 + 17 * (tn y2_4) + 2))) (y2_4 + 1))
def s_X4_sumOfQueues (r : Nat → Int32)  : Int32 := s_X4_sumOfQueues_L4 r (fun y1_4 y2_4 => y1_4) (tn 6 + 1) 0 0
set_option maxHeartbeats 4000000 in
set_option maxRecDepth 100000 in
theorem c_X4_sumOfQueues (l : Launch) (dC : va_G) (ad : Nat → Nat) (k : Nat → ClassId) (r : Nat → Int32)  : Met l yX4_sumOfQueues wsX4_sumOfQueues ({ frames := 0, cells := 0, slots := 0, locals := 0 }) (ft_Pc dC k [.ref (ad 0)] (ft_WS ad k r)) (vp_Si (fun z : Int32 => z = s_X4_sumOfQueues r)) 0 0 (fun _ => False) := by
  refine Met.ofW (cc := cX4_sumOfQueues) (maxL := 3) (ret := (some .int)) (by decide) rfl ?_
  intro p e s m args below meth c s₁ B hml hv
  obtain ⟨hargs, hP, hK⟩ := hv
  subst hargs
  have hx := B.exec
  have hb := B.bytes
  have hr := B.returns
  have hts := atoms_spec (ws := wsX4_sumOfQueues) B.pre
  have hown : s.vm.findClass RX4 = some m.cls := findClass_of_methodNamed B.named
  have hlocks := B.notSynchronized
  have hl := lv_entry ([.ref (ad 0)]) (n := 3) (Nat.le_of_ble_eq_true rfl)
  rw [lg_entry_eq]
  generalize (lg_sl ([.ref (ad 0)]) ++ List.replicate (3 - (lg_sl ([.ref (ad 0)])).length) Slot.unset).toArray = ls at hl ⊢
  have hl : lv_has ls 3 [(0, .ref (ad 0))] := hl
  have hsp := (s_X4_sumOfQueues.eq_1 r ).symm
  refine lv_iconst (v := 0) hx hb dX4_sumOfQueues_0 (by decide) ?_
  refine lv_istore_n (lv' := [(1, .int (0)), (0, .ref (ad 0))]) hx hb dX4_sumOfQueues_1 rfl hl (by decide) rfl (fun ls hl => ?_)
  refine lv_iconst (v := 0) hx hb dX4_sumOfQueues_2 (by decide) ?_
  refine lv_istore_n (lv' := [(2, .int (0)), (1, .int (0)), (0, .ref (ad 0))]) hx hb dX4_sumOfQueues_3 rfl hl (by decide) rfl (fun ls hl => ?_)
  have loop_4 : ∀ (K : Int32 → Int32 → Int32) (hKx : ∀ (y1_4 : Int32) (y2_4 : Int32) (i_4 : Nat) (hi_4 : y2_4 = nI i_4) (hm_4 : i_4 ≤ tn 6) (ls : Array Slot) (hl : lv_has ls 3 [(2, .int (y2_4)), (1, .int (y1_4)), (0, .ref (ad 0))]) (hsp : K y1_4 y2_4 = s_X4_sumOfQueues r), W p l e (headSpec wsX4_sumOfQueues ({ frames := 0, cells := 0, slots := 0, locals := 0 })).room s m ([.ref (ad 0)] : List Value).toArray below meth c s.heap [] 0 0 (MQ below (vp_Si (fun z : Int32 => z = s_X4_sumOfQueues r)) ([.ref (ad 0)] : List Value).toArray s 0 0 (fun _ => False)) (F0 m 28 ls [])) (n_4 : Nat), ∀ (y1_4 : Int32) (y2_4 : Int32) (i_4 : Nat) (hi_4 : y2_4 = nI i_4) (hm_4 : i_4 ≤ tn 6) (hn_4 : tn 6 < n_4 + i_4) (ls : Array Slot) (hl : lv_has ls 3 [(2, .int (y2_4)), (1, .int (y1_4)), (0, .ref (ad 0))]) (hsp : s_X4_sumOfQueues_L4 r K n_4 y1_4 y2_4 = s_X4_sumOfQueues r), W p l e (headSpec wsX4_sumOfQueues ({ frames := 0, cells := 0, slots := 0, locals := 0 })).room s m ([.ref (ad 0)] : List Value).toArray below meth c s.heap [] 0 0 (MQ below (vp_Si (fun z : Int32 => z = s_X4_sumOfQueues r)) ([.ref (ad 0)] : List Value).toArray s 0 0 (fun _ => False)) (F0 m 4 ls []) := by
    intro K hKx n_4
    induction n_4 with
    | zero => intro y1_4 y2_4 i_4 hi_4 hm_4 hn_4; exact absurd hn_4 (by omega)
    | succ n ih_4 =>
      intro y1_4 y2_4 i_4 hi_4 hm_4 hn_4 ls hl hsp
      rw [s_X4_sumOfQueues_L4] at hsp
      refine lv_iload_n hx hb dX4_sumOfQueues_4 rfl (lv_at hl 0 rfl) ?_
      refine lv_bipush (v := 6) hx hb dX4_sumOfQueues_5 (by decide) ?_
      refine lv_icmp_ge (tgt := 28) hx hb dX4_sumOfQueues_7 (by decide) (fun c_7 => ?_) (fun c_7 => ?_)
      · replace hsp := (if_pos c_7).symm.trans hsp
        exact hKx y1_4 y2_4 i_4 hi_4 hm_4 ls (lv_sub hl [0, 1, 2] rfl) hsp
      · replace hsp := (if_neg c_7).symm.trans hsp
        have hlt_4 := ft_step hi_4 hm_4 c_7
        refine lv_iload_n hx hb dX4_sumOfQueues_10 rfl (lv_at hl 1 rfl) ?_
        refine lv_aload_n hx hb dX4_sumOfQueues_11 rfl (lv_at hl 2 rfl) ?_
        refine va_get (D := dC) (ci := 6) (v := .ref (ad 1)) (C := RX4) (T := TX4) (N := 12) hx hb hts (by decide +kernel) hown hK.1 hP 0 (ft_get' (by decide) rfl) rfl 0 (by decide) (hts (.fieldLink RX4 11 "FoodTruckRota$Square" "trucks" "[LFoodTruckRota$Truck;") (by decide +kernel)) (fun _ h9 => h9) rfl dX4_sumOfQueues_12 ?_
        refine lv_iload_n hx hb dX4_sumOfQueues_15 rfl (lv_at hl 0 rfl) ?_
        have h_16 : vp_in y2_4 6 := by exact ft_vin hi_4 hlt_4
        refine va_aldq (C := RX6) hx hb hK.1 hP 1 1 (ft_get' (by decide) rfl) rfl h_16 dX4_sumOfQueues_16 ?_
        refine W.eq (g2 := F0 m 17 ls [.ref (ft_at ad (tn y2_4) 0), .int (y1_4)]) rfl ?_
        refine va_getN (D := dC) (ci := 8) (v := .int (r (51 + 17 * (tn y2_4) + 2))) (C := RX6) (T := TX6) (N := 6) hx hb hts (by decide +kernel) hown hK.1 (ft_S_P hP (ft_tn h_16)) 0 (ft_get' (by decide) rfl) rfl 2 (by decide) (ft_nl hK.2 2 rfl) (fun _ h9 => h9) rfl dX4_sumOfQueues_17 ?_
        refine lv_iadd hx hb dX4_sumOfQueues_20 ?_
        refine lv_istore_n (lv' := [(1, .int (y1_4 + (r (51 + 17 * (tn y2_4) + 2)))), (2, .int (y2_4)), (0, .ref (ad 0))]) hx hb dX4_sumOfQueues_21 rfl hl (by decide) rfl (fun ls hl => ?_)
        refine lv_iinc (v := y2_4 + 1) (lv' := [(2, .int (y2_4 + 1)), (1, .int (y1_4 + (r (51 + 17 * (tn y2_4) + 2)))), (0, .ref (ad 0))]) hx hb dX4_sumOfQueues_22 hl (k := 1) rfl rfl (by decide) rfl (fun ls hl => ?_)
        refine lv_goto (tgt := 4) hx hb dX4_sumOfQueues_25 (by decide) ?_
        exact ih_4 (y1_4 + (r (51 + 17 * (tn y2_4) + 2))) (y2_4 + 1) (i_4 + 1) (by rw [hi_4, nI_1]) hlt_4 (by omega) ls (lv_sub hl [0, 1, 2] rfl) hsp
  refine loop_4 _ (fun y1_4 y2_4 i_4 hi_4 hm_4 ls hl hsp => ?_) (tn 6 + 1) 0 0 0 rfl (by omega) (by omega) ls (lv_sub hl [0, 1, 2] rfl) hsp
  refine lv_iload_n hx hb dX4_sumOfQueues_28 rfl (lv_at hl 1 rfl) ?_
  exact W.iret (v := y1_4) hx hb hr (fun t ht hW => ft_endi (post := fun z : Int32 => z = s_X4_sumOfQueues r) hsp ht) (fun _ h => absurd h List.not_mem_nil) dX4_sumOfQueues_29

def s_X4_sumOfSold_L4 (r : Nat → Int32)  (K : Int32 → Int32 → Int32) : Nat → Int32 → Int32 → Int32
  | 0, y1_4, y2_4 => K y1_4 y2_4
  | n + 1, y1_4, y2_4 => if 4 ≤ y2_4 then (K y1_4 y2_4) else (s_X4_sumOfSold_L4 r K n (y1_4 + (ft_ar r (12) 4 (tn y2_4))) (y2_4 + 1))
def s_X4_sumOfSold (r : Nat → Int32)  : Int32 := s_X4_sumOfSold_L4 r (fun y1_4 y2_4 => y1_4) (tn 4 + 1) 0 0
set_option maxHeartbeats 4000000 in
set_option maxRecDepth 100000 in
theorem c_X4_sumOfSold (l : Launch) (dC : va_G) (ad : Nat → Nat) (k : Nat → ClassId) (r : Nat → Int32)  : Met l yX4_sumOfSold wsX4_sumOfSold ({ frames := 0, cells := 0, slots := 0, locals := 0 }) (ft_Pc dC k [.ref (ad 0)] (ft_WS ad k r)) (vp_Si (fun z : Int32 => z = s_X4_sumOfSold r)) 0 0 (fun _ => False) := by
  refine Met.ofW (cc := cX4_sumOfSold) (maxL := 3) (ret := (some .int)) (by decide) rfl ?_
  intro p e s m args below meth c s₁ B hml hv
  obtain ⟨hargs, hP, hK⟩ := hv
  subst hargs
  have hx := B.exec
  have hb := B.bytes
  have hr := B.returns
  have hts := atoms_spec (ws := wsX4_sumOfSold) B.pre
  have hown : s.vm.findClass RX4 = some m.cls := findClass_of_methodNamed B.named
  have hlocks := B.notSynchronized
  have hl := lv_entry ([.ref (ad 0)]) (n := 3) (Nat.le_of_ble_eq_true rfl)
  rw [lg_entry_eq]
  generalize (lg_sl ([.ref (ad 0)]) ++ List.replicate (3 - (lg_sl ([.ref (ad 0)])).length) Slot.unset).toArray = ls at hl ⊢
  have hl : lv_has ls 3 [(0, .ref (ad 0))] := hl
  have hsp := (s_X4_sumOfSold.eq_1 r ).symm
  refine lv_iconst (v := 0) hx hb dX4_sumOfSold_0 (by decide) ?_
  refine lv_istore_n (lv' := [(1, .int (0)), (0, .ref (ad 0))]) hx hb dX4_sumOfSold_1 rfl hl (by decide) rfl (fun ls hl => ?_)
  refine lv_iconst (v := 0) hx hb dX4_sumOfSold_2 (by decide) ?_
  refine lv_istore_n (lv' := [(2, .int (0)), (1, .int (0)), (0, .ref (ad 0))]) hx hb dX4_sumOfSold_3 rfl hl (by decide) rfl (fun ls hl => ?_)
  have loop_4 : ∀ (K : Int32 → Int32 → Int32) (hKx : ∀ (y1_4 : Int32) (y2_4 : Int32) (i_4 : Nat) (hi_4 : y2_4 = nI i_4) (hm_4 : i_4 ≤ tn 4) (ls : Array Slot) (hl : lv_has ls 3 [(2, .int (y2_4)), (1, .int (y1_4)), (0, .ref (ad 0))]) (hsp : K y1_4 y2_4 = s_X4_sumOfSold r), W p l e (headSpec wsX4_sumOfSold ({ frames := 0, cells := 0, slots := 0, locals := 0 })).room s m ([.ref (ad 0)] : List Value).toArray below meth c s.heap [] 0 0 (MQ below (vp_Si (fun z : Int32 => z = s_X4_sumOfSold r)) ([.ref (ad 0)] : List Value).toArray s 0 0 (fun _ => False)) (F0 m 24 ls [])) (n_4 : Nat), ∀ (y1_4 : Int32) (y2_4 : Int32) (i_4 : Nat) (hi_4 : y2_4 = nI i_4) (hm_4 : i_4 ≤ tn 4) (hn_4 : tn 4 < n_4 + i_4) (ls : Array Slot) (hl : lv_has ls 3 [(2, .int (y2_4)), (1, .int (y1_4)), (0, .ref (ad 0))]) (hsp : s_X4_sumOfSold_L4 r K n_4 y1_4 y2_4 = s_X4_sumOfSold r), W p l e (headSpec wsX4_sumOfSold ({ frames := 0, cells := 0, slots := 0, locals := 0 })).room s m ([.ref (ad 0)] : List Value).toArray below meth c s.heap [] 0 0 (MQ below (vp_Si (fun z : Int32 => z = s_X4_sumOfSold r)) ([.ref (ad 0)] : List Value).toArray s 0 0 (fun _ => False)) (F0 m 4 ls []) := by
    intro K hKx n_4
    induction n_4 with
    | zero => intro y1_4 y2_4 i_4 hi_4 hm_4 hn_4; exact absurd hn_4 (by omega)
    | succ n ih_4 =>
      intro y1_4 y2_4 i_4 hi_4 hm_4 hn_4 ls hl hsp
      rw [s_X4_sumOfSold_L4] at hsp
      refine lv_iload_n hx hb dX4_sumOfSold_4 rfl (lv_at hl 0 rfl) ?_
      refine lv_iconst (v := 4) hx hb dX4_sumOfSold_5 (by decide) ?_
      refine lv_icmp_ge (tgt := 24) hx hb dX4_sumOfSold_6 (by decide) (fun c_6 => ?_) (fun c_6 => ?_)
      · replace hsp := (if_pos c_6).symm.trans hsp
        exact hKx y1_4 y2_4 i_4 hi_4 hm_4 ls (lv_sub hl [0, 1, 2] rfl) hsp
      · replace hsp := (if_neg c_6).symm.trans hsp
        have hlt_4 := ft_step hi_4 hm_4 c_6
        refine lv_iload_n hx hb dX4_sumOfSold_9 rfl (lv_at hl 1 rfl) ?_
        refine lv_aload_n hx hb dX4_sumOfSold_10 rfl (lv_at hl 2 rfl) ?_
        refine va_get (D := dC) (ci := 6) (v := .ref (ad 4)) (C := RX4) (T := TX4) (N := 12) hx hb hts (by decide +kernel) hown hK.1 hP 0 (ft_get' (by decide) rfl) rfl 3 (by decide) (hts (.fieldLink RX4 24 "FoodTruckRota$Square" "sold" "[I") (by decide +kernel)) (fun _ h9 => h9) rfl dX4_sumOfSold_11 ?_
        refine lv_iload_n hx hb dX4_sumOfSold_14 rfl (lv_at hl 0 rfl) ?_
        have h_15 : vp_in y2_4 4 := by exact ft_vin hi_4 hlt_4
        refine va_iald hx hb hK.1 hP 4 0 (ft_get' (by decide) rfl) rfl h_15 dX4_sumOfSold_15 ?_
        refine lv_iadd hx hb dX4_sumOfSold_16 ?_
        refine lv_istore_n (lv' := [(1, .int (y1_4 + (ft_ar r (12) 4 (tn y2_4)))), (2, .int (y2_4)), (0, .ref (ad 0))]) hx hb dX4_sumOfSold_17 rfl hl (by decide) rfl (fun ls hl => ?_)
        refine lv_iinc (v := y2_4 + 1) (lv' := [(2, .int (y2_4 + 1)), (1, .int (y1_4 + (ft_ar r (12) 4 (tn y2_4)))), (0, .ref (ad 0))]) hx hb dX4_sumOfSold_18 hl (k := 1) rfl rfl (by decide) rfl (fun ls hl => ?_)
        refine lv_goto (tgt := 4) hx hb dX4_sumOfSold_21 (by decide) ?_
        exact ih_4 (y1_4 + (ft_ar r (12) 4 (tn y2_4))) (y2_4 + 1) (i_4 + 1) (by rw [hi_4, nI_1]) hlt_4 (by omega) ls (lv_sub hl [0, 1, 2] rfl) hsp
  refine loop_4 _ (fun y1_4 y2_4 i_4 hi_4 hm_4 ls hl hsp => ?_) (tn 4 + 1) 0 0 0 rfl (by omega) (by omega) ls (lv_sub hl [0, 1, 2] rfl) hsp
  refine lv_iload_n hx hb dX4_sumOfSold_24 rfl (lv_at hl 1 rfl) ?_
  exact W.iret (v := y1_4) hx hb hr (fun t ht hW => ft_endi (post := fun z : Int32 => z = s_X4_sumOfSold r) hsp ht) (fun _ h => absurd h List.not_mem_nil) dX4_sumOfSold_25

def s_X4_rankOf_L14 (r : Nat → Int32) (x1 : Int32) (K : Int32 → Int32 → Int32) : Nat → Int32 → Int32 → Int32
  | 0, y2_14, y3_14 => K y2_14 y3_14
  | n + 1, y2_14, y3_14 => if (r 0) ≤ y3_14 then (K y2_14 y3_14) else (if 6 ≤ y3_14 then (K y2_14 y3_14) else (if x1 ≤ y3_14 then (if (s_X6_ranksBefore r (51 + 17 * (tn y3_14)) r (51 + 17 * (tn x1))) = 0 then (s_X4_rankOf_L14 r x1 K n y2_14 (y3_14 + 1)) else (s_X4_rankOf_L14 r x1 K n (y2_14 + 1) (y3_14 + 1))) else (if (s_X6_ranksBefore r (51 + 17 * (tn x1)) r (51 + 17 * (tn y3_14))) = 0 then (s_X4_rankOf_L14 r x1 K n (y2_14 + 1) (y3_14 + 1)) else (s_X4_rankOf_L14 r x1 K n y2_14 (y3_14 + 1)))))
def s_X4_rankOf (r : Nat → Int32) (x1 : Int32) : Int32 := if (s_X4_isTruck r x1) = 0 then ((-1)) else (s_X4_rankOf_L14 r x1 (fun y2_14 y3_14 => y2_14) (tn (r 0) + 1) 0 0)
set_option maxHeartbeats 4000000 in
set_option maxRecDepth 100000 in
theorem c_X4_rankOf (l : Launch) (dC : va_G) (ad : Nat → Nat) (k : Nat → ClassId) (r : Nat → Int32) (x1 : Int32) : Met l yX4_rankOf wsX4_rankOf ({ frames := 2, cells := 0, slots := 0, locals := 43 }) (ft_Pc dC k [.ref (ad 0), .int x1] (ft_WS ad k r)) (vp_Si (fun z : Int32 => z = s_X4_rankOf r x1)) 0 0 (fun _ => False) := by
  refine Met.ofW (cc := cX4_rankOf) (maxL := 5) (ret := (some .int)) (by decide) rfl ?_
  intro p e s m args below meth c s₁ B hml hv
  obtain ⟨hargs, hP, hK⟩ := hv
  subst hargs
  have hx := B.exec
  have hb := B.bytes
  have hr := B.returns
  have hts := atoms_spec (ws := wsX4_rankOf) B.pre
  have hown : s.vm.findClass RX4 = some m.cls := findClass_of_methodNamed B.named
  have hlocks := B.notSynchronized
  have hl := lv_entry ([.ref (ad 0), .int x1]) (n := 5) (Nat.le_of_ble_eq_true rfl)
  rw [lg_entry_eq]
  generalize (lg_sl ([.ref (ad 0), .int x1]) ++ List.replicate (5 - (lg_sl ([.ref (ad 0), .int x1])).length) Slot.unset).toArray = ls at hl ⊢
  have hl : lv_has ls 5 [(0, .ref (ad 0)), (1, .int (x1))] := hl
  have hsp := (s_X4_rankOf.eq_1 r x1).symm
  refine lv_aload_n hx hb dX4_rankOf_0 rfl (lv_at hl 0 rfl) ?_
  refine lv_iload_n hx hb dX4_rankOf_1 rfl (lv_at hl 1 rfl) ?_
  refine vp_callSi (va_Run.run (va_runV (As := [.int (x1)]) (rest := []) ⟨hx, hb, hml, hown, hts⟩ (c_X4_isTruck l dC ad k r x1) (cwV 1 hts gX4_rankOf_X4_isTruck rfl rfl rfl (by decide +kernel) ⟨Nat.le_of_ble_eq_true rfl, Nat.le_of_ble_eq_true rfl⟩) (ft_preVc hK hP (ci := 6) rfl (ft_get' (by decide) rfl)) rfl rfl hl.1 rfl (lv_room (Nat.le_of_ble_eq_true rfl)) dX4_rankOf_2 ⟨Nat.le_of_ble_eq_true rfl, Nat.le_of_ble_eq_true rfl⟩)) (fun z hz => ?_)
  subst hz
  refine lv_if_ne (tgt := 10) hx hb dX4_rankOf_5 (by decide) (fun c_5 => ?_) (fun c_5 => ?_)
  · replace hsp := (if_neg c_5).symm.trans hsp
    refine lv_iconst (v := 0) hx hb dX4_rankOf_10 (by decide) ?_
    refine lv_istore_n (lv' := [(2, .int (0)), (0, .ref (ad 0)), (1, .int (x1))]) hx hb dX4_rankOf_11 rfl hl (by decide) rfl (fun ls hl => ?_)
    refine lv_iconst (v := 0) hx hb dX4_rankOf_12 (by decide) ?_
    refine lv_istore_n (lv' := [(3, .int (0)), (2, .int (0)), (0, .ref (ad 0)), (1, .int (x1))]) hx hb dX4_rankOf_13 rfl hl (by decide) rfl (fun ls hl => ?_)
    have loop_14 : ∀ (K : Int32 → Int32 → Int32) (hKx : ∀ (y2_14 : Int32) (y3_14 : Int32) (i_14 : Nat) (hi_14 : y3_14 = nI i_14) (hm_14 : i_14 ≤ tn (r 0)) (ls : Array Slot) (hl : lv_has ls 5 [(3, .int (y3_14)), (2, .int (y2_14)), (0, .ref (ad 0)), (1, .int (x1))]) (hsp : K y2_14 y3_14 = s_X4_rankOf r x1), W p l e (headSpec wsX4_rankOf ({ frames := 2, cells := 0, slots := 0, locals := 43 })).room s m ([.ref (ad 0), .int x1] : List Value).toArray below meth c s.heap [] 0 0 (MQ below (vp_Si (fun z : Int32 => z = s_X4_rankOf r x1)) ([.ref (ad 0), .int x1] : List Value).toArray s 0 0 (fun _ => False)) (F0 m 90 ls [])) (n_14 : Nat), ∀ (y2_14 : Int32) (y3_14 : Int32) (i_14 : Nat) (hi_14 : y3_14 = nI i_14) (hm_14 : i_14 ≤ tn (r 0)) (hn_14 : tn (r 0) < n_14 + i_14) (ls : Array Slot) (hl : lv_has ls 5 [(3, .int (y3_14)), (2, .int (y2_14)), (0, .ref (ad 0)), (1, .int (x1))]) (hsp : s_X4_rankOf_L14 r x1 K n_14 y2_14 y3_14 = s_X4_rankOf r x1), W p l e (headSpec wsX4_rankOf ({ frames := 2, cells := 0, slots := 0, locals := 43 })).room s m ([.ref (ad 0), .int x1] : List Value).toArray below meth c s.heap [] 0 0 (MQ below (vp_Si (fun z : Int32 => z = s_X4_rankOf r x1)) ([.ref (ad 0), .int x1] : List Value).toArray s 0 0 (fun _ => False)) (F0 m 14 ls []) := by
      intro K hKx n_14
      induction n_14 with
      | zero => intro y2_14 y3_14 i_14 hi_14 hm_14 hn_14; exact absurd hn_14 (by omega)
      | succ n ih_14 =>
        intro y2_14 y3_14 i_14 hi_14 hm_14 hn_14 ls hl hsp
        rw [s_X4_rankOf_L14] at hsp
        refine lv_iload_n hx hb dX4_rankOf_14 rfl (lv_at hl 0 rfl) ?_
        refine lv_aload_n hx hb dX4_rankOf_15 rfl (lv_at hl 2 rfl) ?_
        refine va_get (D := dC) (ci := 6) (v := .int (r 0)) (C := RX4) (T := TX4) (N := 12) hx hb hts (by decide +kernel) hown hK.1 hP 0 (ft_get' (by decide) rfl) rfl 4 (by decide) (hts (.fieldLink RX4 48 "FoodTruckRota$Square" "truckTotal" "I") (by decide +kernel)) (fun _ h9 => h9) rfl dX4_rankOf_16 ?_
        refine lv_icmp_ge (tgt := 90) hx hb dX4_rankOf_19 (by decide) (fun c_19 => ?_) (fun c_19 => ?_)
        · replace hsp := (if_pos c_19).symm.trans hsp
          exact hKx y2_14 y3_14 i_14 hi_14 hm_14 ls (lv_sub hl [0, 1, 2, 3] rfl) hsp
        · replace hsp := (if_neg c_19).symm.trans hsp
          have hlt_14 := ft_step hi_14 hm_14 c_19
          refine lv_iload_n hx hb dX4_rankOf_22 rfl (lv_at hl 0 rfl) ?_
          refine lv_bipush (v := 6) hx hb dX4_rankOf_23 (by decide) ?_
          refine lv_icmp_ge (tgt := 90) hx hb dX4_rankOf_25 (by decide) (fun c_25 => ?_) (fun c_25 => ?_)
          · replace hsp := (if_pos c_25).symm.trans hsp
            exact hKx y2_14 y3_14 i_14 hi_14 hm_14 ls (lv_sub hl [0, 1, 2, 3] rfl) hsp
          · replace hsp := (if_neg c_25).symm.trans hsp
            refine lv_iload_n hx hb dX4_rankOf_28 rfl (lv_at hl 0 rfl) ?_
            refine lv_iload_n hx hb dX4_rankOf_29 rfl (lv_at hl 3 rfl) ?_
            refine lv_icmp_ge (tgt := 59) hx hb dX4_rankOf_30 (by decide) (fun c_30 => ?_) (fun c_30 => ?_)
            · replace hsp := (if_pos c_30).symm.trans hsp
              refine lv_aload_n hx hb dX4_rankOf_59 rfl (lv_at hl 2 rfl) ?_
              refine va_get (D := dC) (ci := 6) (v := .ref (ad 1)) (C := RX4) (T := TX4) (N := 12) hx hb hts (by decide +kernel) hown hK.1 hP 0 (ft_get' (by decide) rfl) rfl 0 (by decide) (hts (.fieldLink RX4 11 "FoodTruckRota$Square" "trucks" "[LFoodTruckRota$Truck;") (by decide +kernel)) (fun _ h9 => h9) rfl dX4_rankOf_60 ?_
              refine lv_iload_n hx hb dX4_rankOf_63 rfl (lv_at hl 0 rfl) ?_
              have h_64 : vp_in y3_14 6 := by exact ft_vin2 hi_14 hlt_14 c_25
              refine va_aldq (C := RX6) hx hb hK.1 hP 1 1 (ft_get' (by decide) rfl) rfl h_64 dX4_rankOf_64 ?_
              refine W.eq (g2 := F0 m 65 ls [.ref (ft_at ad (tn y3_14) 0)]) rfl ?_
              refine lv_aload_n hx hb dX4_rankOf_65 rfl (lv_at hl 2 rfl) ?_
              refine va_get (D := dC) (ci := 6) (v := .ref (ad 1)) (C := RX4) (T := TX4) (N := 12) hx hb hts (by decide +kernel) hown hK.1 hP 0 (ft_get' (by decide) rfl) rfl 0 (by decide) (hts (.fieldLink RX4 11 "FoodTruckRota$Square" "trucks" "[LFoodTruckRota$Truck;") (by decide +kernel)) (fun _ h9 => h9) rfl dX4_rankOf_66 ?_
              refine lv_iload_n hx hb dX4_rankOf_69 rfl (lv_at hl 3 rfl) ?_
              have h_70 : vp_in x1 6 := by first | assumption | exact isTruck_in (by assumption) | exact isDish_in (by assumption)
              refine va_aldq (C := RX6) hx hb hK.1 hP 1 1 (ft_get' (by decide) rfl) rfl h_70 dX4_rankOf_70 ?_
              refine W.eq (g2 := F0 m 71 ls [.ref (ft_at ad (tn x1) 0), .ref (ft_at ad (tn y3_14) 0)]) rfl ?_
              refine vp_callSi (va_Run.run (va_runV (As := [.ref (ft_at ad (tn x1) 0)]) (rest := []) ⟨hx, hb, hml, hown, hts⟩ (c_X6_ranksBefore l dC (ft_at ad (tn y3_14)) k r (51 + 17 * (tn y3_14)) (ft_at ad (tn x1)) r (51 + 17 * (tn x1))) (cwV 1 hts gX4_rankOf_X6_ranksBefore rfl rfl rfl (by decide +kernel) ⟨Nat.le_of_ble_eq_true rfl, Nat.le_of_ble_eq_true rfl⟩) (ft_preVc2 hK (ft_S_P hP (ft_tn h_64)) (ft_S_P hP (ft_tn h_70)) (ci := 8) rfl (ft_get' (by decide) rfl)) rfl rfl hl.1 rfl (lv_room (Nat.le_of_ble_eq_true rfl)) dX4_rankOf_71 ⟨Nat.le_of_ble_eq_true rfl, Nat.le_of_ble_eq_true rfl⟩)) (fun z hz => ?_)
              subst hz
              refine lv_istore (lv' := [(4, .int ((s_X6_ranksBefore r (51 + 17 * (tn y3_14)) r (51 + 17 * (tn x1))))), (3, .int (y3_14)), (2, .int (y2_14)), (0, .ref (ad 0)), (1, .int (x1))]) hx hb dX4_rankOf_74 hl (by decide) rfl (fun ls hl => ?_)
              refine lv_iload hx hb dX4_rankOf_76 (lv_at hl 0 rfl) ?_
              refine lv_if_eq (tgt := 84) hx hb dX4_rankOf_78 (by decide) (fun c_78 => ?_) (fun c_78 => ?_)
              · replace hsp := (if_pos c_78).symm.trans hsp
                refine lv_iinc (v := y3_14 + 1) (lv' := [(3, .int (y3_14 + 1)), (4, .int ((s_X6_ranksBefore r (51 + 17 * (tn y3_14)) r (51 + 17 * (tn x1))))), (2, .int (y2_14)), (0, .ref (ad 0)), (1, .int (x1))]) hx hb dX4_rankOf_84 hl (k := 1) rfl rfl (by decide) rfl (fun ls hl => ?_)
                refine lv_goto (tgt := 14) hx hb dX4_rankOf_87 (by decide) ?_
                exact ih_14 y2_14 (y3_14 + 1) (i_14 + 1) (by rw [hi_14, nI_1]) hlt_14 (by omega) ls (lv_sub hl [0, 2, 3, 4] rfl) hsp
              · replace hsp := (if_neg c_78).symm.trans hsp
                refine lv_iinc (v := y2_14 + 1) (lv' := [(2, .int (y2_14 + 1)), (4, .int ((s_X6_ranksBefore r (51 + 17 * (tn y3_14)) r (51 + 17 * (tn x1))))), (3, .int (y3_14)), (0, .ref (ad 0)), (1, .int (x1))]) hx hb dX4_rankOf_81 hl (k := 2) rfl rfl (by decide) rfl (fun ls hl => ?_)
                refine lv_iinc (v := y3_14 + 1) (lv' := [(3, .int (y3_14 + 1)), (2, .int (y2_14 + 1)), (4, .int ((s_X6_ranksBefore r (51 + 17 * (tn y3_14)) r (51 + 17 * (tn x1))))), (0, .ref (ad 0)), (1, .int (x1))]) hx hb dX4_rankOf_84 hl (k := 2) rfl rfl (by decide) rfl (fun ls hl => ?_)
                refine lv_goto (tgt := 14) hx hb dX4_rankOf_87 (by decide) ?_
                exact ih_14 (y2_14 + 1) (y3_14 + 1) (i_14 + 1) (by rw [hi_14, nI_1]) hlt_14 (by omega) ls (lv_sub hl [0, 1, 3, 4] rfl) hsp
            · replace hsp := (if_neg c_30).symm.trans hsp
              refine lv_aload_n hx hb dX4_rankOf_33 rfl (lv_at hl 2 rfl) ?_
              refine va_get (D := dC) (ci := 6) (v := .ref (ad 1)) (C := RX4) (T := TX4) (N := 12) hx hb hts (by decide +kernel) hown hK.1 hP 0 (ft_get' (by decide) rfl) rfl 0 (by decide) (hts (.fieldLink RX4 11 "FoodTruckRota$Square" "trucks" "[LFoodTruckRota$Truck;") (by decide +kernel)) (fun _ h9 => h9) rfl dX4_rankOf_34 ?_
              refine lv_iload_n hx hb dX4_rankOf_37 rfl (lv_at hl 3 rfl) ?_
              have h_38 : vp_in x1 6 := by first | assumption | exact isTruck_in (by assumption) | exact isDish_in (by assumption)
              refine va_aldq (C := RX6) hx hb hK.1 hP 1 1 (ft_get' (by decide) rfl) rfl h_38 dX4_rankOf_38 ?_
              refine W.eq (g2 := F0 m 39 ls [.ref (ft_at ad (tn x1) 0)]) rfl ?_
              refine lv_aload_n hx hb dX4_rankOf_39 rfl (lv_at hl 2 rfl) ?_
              refine va_get (D := dC) (ci := 6) (v := .ref (ad 1)) (C := RX4) (T := TX4) (N := 12) hx hb hts (by decide +kernel) hown hK.1 hP 0 (ft_get' (by decide) rfl) rfl 0 (by decide) (hts (.fieldLink RX4 11 "FoodTruckRota$Square" "trucks" "[LFoodTruckRota$Truck;") (by decide +kernel)) (fun _ h9 => h9) rfl dX4_rankOf_40 ?_
              refine lv_iload_n hx hb dX4_rankOf_43 rfl (lv_at hl 0 rfl) ?_
              have h_44 : vp_in y3_14 6 := by exact ft_vin2 hi_14 hlt_14 c_25
              refine va_aldq (C := RX6) hx hb hK.1 hP 1 1 (ft_get' (by decide) rfl) rfl h_44 dX4_rankOf_44 ?_
              refine W.eq (g2 := F0 m 45 ls [.ref (ft_at ad (tn y3_14) 0), .ref (ft_at ad (tn x1) 0)]) rfl ?_
              refine vp_callSi (va_Run.run (va_runV (As := [.ref (ft_at ad (tn y3_14) 0)]) (rest := []) ⟨hx, hb, hml, hown, hts⟩ (c_X6_ranksBefore l dC (ft_at ad (tn x1)) k r (51 + 17 * (tn x1)) (ft_at ad (tn y3_14)) r (51 + 17 * (tn y3_14))) (cwV 1 hts gX4_rankOf_X6_ranksBefore rfl rfl rfl (by decide +kernel) ⟨Nat.le_of_ble_eq_true rfl, Nat.le_of_ble_eq_true rfl⟩) (ft_preVc2 hK (ft_S_P hP (ft_tn h_38)) (ft_S_P hP (ft_tn h_44)) (ci := 8) rfl (ft_get' (by decide) rfl)) rfl rfl hl.1 rfl (lv_room (Nat.le_of_ble_eq_true rfl)) dX4_rankOf_45 ⟨Nat.le_of_ble_eq_true rfl, Nat.le_of_ble_eq_true rfl⟩)) (fun z hz => ?_)
              subst hz
              refine lv_if_ne (tgt := 55) hx hb dX4_rankOf_48 (by decide) (fun c_48 => ?_) (fun c_48 => ?_)
              · replace hsp := (if_neg c_48).symm.trans hsp
                refine lv_iconst (v := 0) hx hb dX4_rankOf_55 (by decide) ?_
                refine lv_goto (tgt := 74) hx hb dX4_rankOf_56 (by decide) ?_
                refine lv_istore (lv' := [(4, .int (0)), (3, .int (y3_14)), (2, .int (y2_14)), (0, .ref (ad 0)), (1, .int (x1))]) hx hb dX4_rankOf_74 hl (by decide) rfl (fun ls hl => ?_)
                refine lv_iload hx hb dX4_rankOf_76 (lv_at hl 0 rfl) ?_
                refine lv_if_eq (tgt := 84) hx hb dX4_rankOf_78 (by decide) (fun c_78 => ?_) (fun c_78 => ?_)
                · skip
                  refine lv_iinc (v := y3_14 + 1) (lv' := [(3, .int (y3_14 + 1)), (4, .int (0)), (2, .int (y2_14)), (0, .ref (ad 0)), (1, .int (x1))]) hx hb dX4_rankOf_84 hl (k := 1) rfl rfl (by decide) rfl (fun ls hl => ?_)
                  refine lv_goto (tgt := 14) hx hb dX4_rankOf_87 (by decide) ?_
                  exact ih_14 y2_14 (y3_14 + 1) (i_14 + 1) (by rw [hi_14, nI_1]) hlt_14 (by omega) ls (lv_sub hl [0, 2, 3, 4] rfl) hsp
                · skip
                  first | exact absurd c_78 (by decide) | exact absurd (by decide) c_78
              · replace hsp := (if_pos c_48).symm.trans hsp
                refine lv_iconst (v := 1) hx hb dX4_rankOf_51 (by decide) ?_
                refine lv_goto (tgt := 74) hx hb dX4_rankOf_52 (by decide) ?_
                refine lv_istore (lv' := [(4, .int (1)), (3, .int (y3_14)), (2, .int (y2_14)), (0, .ref (ad 0)), (1, .int (x1))]) hx hb dX4_rankOf_74 hl (by decide) rfl (fun ls hl => ?_)
                refine lv_iload hx hb dX4_rankOf_76 (lv_at hl 0 rfl) ?_
                refine lv_if_eq (tgt := 84) hx hb dX4_rankOf_78 (by decide) (fun c_78 => ?_) (fun c_78 => ?_)
                · skip
                  first | exact absurd c_78 (by decide) | exact absurd (by decide) c_78
                · skip
                  refine lv_iinc (v := y2_14 + 1) (lv' := [(2, .int (y2_14 + 1)), (4, .int (1)), (3, .int (y3_14)), (0, .ref (ad 0)), (1, .int (x1))]) hx hb dX4_rankOf_81 hl (k := 2) rfl rfl (by decide) rfl (fun ls hl => ?_)
                  refine lv_iinc (v := y3_14 + 1) (lv' := [(3, .int (y3_14 + 1)), (2, .int (y2_14 + 1)), (4, .int (1)), (0, .ref (ad 0)), (1, .int (x1))]) hx hb dX4_rankOf_84 hl (k := 2) rfl rfl (by decide) rfl (fun ls hl => ?_)
                  refine lv_goto (tgt := 14) hx hb dX4_rankOf_87 (by decide) ?_
                  exact ih_14 (y2_14 + 1) (y3_14 + 1) (i_14 + 1) (by rw [hi_14, nI_1]) hlt_14 (by omega) ls (lv_sub hl [0, 1, 3, 4] rfl) hsp
    refine loop_14 _ (fun y2_14 y3_14 i_14 hi_14 hm_14 ls hl hsp => ?_) (tn (r 0) + 1) 0 0 0 rfl (by omega) (by omega) ls (lv_sub hl [0, 1, 2, 3] rfl) hsp
    refine lv_iload_n hx hb dX4_rankOf_90 rfl (lv_at hl 1 rfl) ?_
    exact W.iret (v := y2_14) hx hb hr (fun t ht hW => ft_endi (post := fun z : Int32 => z = s_X4_rankOf r x1) hsp ht) (fun _ h => absurd h List.not_mem_nil) dX4_rankOf_91
  · replace hsp := (if_pos c_5).symm.trans hsp
    refine lv_iconst (v := (-1)) hx hb dX4_rankOf_8 (by decide) ?_
    exact W.iret (v := (-1)) hx hb hr (fun t ht hW => ft_endi (post := fun z : Int32 => z = s_X4_rankOf r x1) hsp ht) (fun _ h => absurd h List.not_mem_nil) dX4_rankOf_9

def s_X4_truckRanked_L2 (r : Nat → Int32) (x1 : Int32) (K : Int32 → Int32) : Nat → Int32 → Int32
  | 0, y2_2 => K y2_2
  | n + 1, y2_2 => if (r 0) ≤ y2_2 then (K y2_2) else (if (s_X4_rankOf r y2_2) = x1 then (y2_2) else (s_X4_truckRanked_L2 r x1 K n (y2_2 + 1)))
def s_X4_truckRanked (r : Nat → Int32) (x1 : Int32) : Int32 := s_X4_truckRanked_L2 r x1 (fun y2_2 => (-1)) (tn (r 0) + 1) 0
set_option maxHeartbeats 4000000 in
set_option maxRecDepth 100000 in
theorem c_X4_truckRanked (l : Launch) (dC : va_G) (ad : Nat → Nat) (k : Nat → ClassId) (r : Nat → Int32) (x1 : Int32) : Met l yX4_truckRanked wsX4_truckRanked ({ frames := 3, cells := 0, slots := 0, locals := 67 }) (ft_Pc dC k [.ref (ad 0), .int x1] (ft_WS ad k r)) (vp_Si (fun z : Int32 => z = s_X4_truckRanked r x1)) 0 0 (fun _ => False) := by
  refine Met.ofW (cc := cX4_truckRanked) (maxL := 3) (ret := (some .int)) (by decide) rfl ?_
  intro p e s m args below meth c s₁ B hml hv
  obtain ⟨hargs, hP, hK⟩ := hv
  subst hargs
  have hx := B.exec
  have hb := B.bytes
  have hr := B.returns
  have hts := atoms_spec (ws := wsX4_truckRanked) B.pre
  have hown : s.vm.findClass RX4 = some m.cls := findClass_of_methodNamed B.named
  have hlocks := B.notSynchronized
  have hl := lv_entry ([.ref (ad 0), .int x1]) (n := 3) (Nat.le_of_ble_eq_true rfl)
  rw [lg_entry_eq]
  generalize (lg_sl ([.ref (ad 0), .int x1]) ++ List.replicate (3 - (lg_sl ([.ref (ad 0), .int x1])).length) Slot.unset).toArray = ls at hl ⊢
  have hl : lv_has ls 3 [(0, .ref (ad 0)), (1, .int (x1))] := hl
  have hsp := (s_X4_truckRanked.eq_1 r x1).symm
  refine lv_iconst (v := 0) hx hb dX4_truckRanked_0 (by decide) ?_
  refine lv_istore_n (lv' := [(2, .int (0)), (0, .ref (ad 0)), (1, .int (x1))]) hx hb dX4_truckRanked_1 rfl hl (by decide) rfl (fun ls hl => ?_)
  have loop_2 : ∀ (K : Int32 → Int32) (hKx : ∀ (y2_2 : Int32) (i_2 : Nat) (hi_2 : y2_2 = nI i_2) (hm_2 : i_2 ≤ tn (r 0)) (ls : Array Slot) (hl : lv_has ls 3 [(2, .int (y2_2)), (0, .ref (ad 0)), (1, .int (x1))]) (hsp : K y2_2 = s_X4_truckRanked r x1), W p l e (headSpec wsX4_truckRanked ({ frames := 3, cells := 0, slots := 0, locals := 67 })).room s m ([.ref (ad 0), .int x1] : List Value).toArray below meth c s.heap [] 0 0 (MQ below (vp_Si (fun z : Int32 => z = s_X4_truckRanked r x1)) ([.ref (ad 0), .int x1] : List Value).toArray s 0 0 (fun _ => False)) (F0 m 27 ls [])) (n_2 : Nat), ∀ (y2_2 : Int32) (i_2 : Nat) (hi_2 : y2_2 = nI i_2) (hm_2 : i_2 ≤ tn (r 0)) (hn_2 : tn (r 0) < n_2 + i_2) (ls : Array Slot) (hl : lv_has ls 3 [(2, .int (y2_2)), (0, .ref (ad 0)), (1, .int (x1))]) (hsp : s_X4_truckRanked_L2 r x1 K n_2 y2_2 = s_X4_truckRanked r x1), W p l e (headSpec wsX4_truckRanked ({ frames := 3, cells := 0, slots := 0, locals := 67 })).room s m ([.ref (ad 0), .int x1] : List Value).toArray below meth c s.heap [] 0 0 (MQ below (vp_Si (fun z : Int32 => z = s_X4_truckRanked r x1)) ([.ref (ad 0), .int x1] : List Value).toArray s 0 0 (fun _ => False)) (F0 m 2 ls []) := by
    intro K hKx n_2
    induction n_2 with
    | zero => intro y2_2 i_2 hi_2 hm_2 hn_2; exact absurd hn_2 (by omega)
    | succ n ih_2 =>
      intro y2_2 i_2 hi_2 hm_2 hn_2 ls hl hsp
      rw [s_X4_truckRanked_L2] at hsp
      refine lv_iload_n hx hb dX4_truckRanked_2 rfl (lv_at hl 0 rfl) ?_
      refine lv_aload_n hx hb dX4_truckRanked_3 rfl (lv_at hl 1 rfl) ?_
      refine va_get (D := dC) (ci := 6) (v := .int (r 0)) (C := RX4) (T := TX4) (N := 12) hx hb hts (by decide +kernel) hown hK.1 hP 0 (ft_get' (by decide) rfl) rfl 4 (by decide) (hts (.fieldLink RX4 48 "FoodTruckRota$Square" "truckTotal" "I") (by decide +kernel)) (fun _ h9 => h9) rfl dX4_truckRanked_4 ?_
      refine lv_icmp_ge (tgt := 27) hx hb dX4_truckRanked_7 (by decide) (fun c_7 => ?_) (fun c_7 => ?_)
      · replace hsp := (if_pos c_7).symm.trans hsp
        exact hKx y2_2 i_2 hi_2 hm_2 ls (lv_sub hl [0, 1, 2] rfl) hsp
      · replace hsp := (if_neg c_7).symm.trans hsp
        have hlt_2 := ft_step hi_2 hm_2 c_7
        refine lv_aload_n hx hb dX4_truckRanked_10 rfl (lv_at hl 1 rfl) ?_
        refine lv_iload_n hx hb dX4_truckRanked_11 rfl (lv_at hl 0 rfl) ?_
        refine vp_callSi (va_Run.run (va_runV (As := [.int (y2_2)]) (rest := []) ⟨hx, hb, hml, hown, hts⟩ (c_X4_rankOf l dC ad k r y2_2) (cwV 1 hts gX4_truckRanked_X4_rankOf rfl rfl rfl (by decide +kernel) ⟨Nat.le_of_ble_eq_true rfl, Nat.le_of_ble_eq_true rfl⟩) (ft_preVc hK hP (ci := 6) rfl (ft_get' (by decide) rfl)) rfl rfl hl.1 rfl (lv_room (Nat.le_of_ble_eq_true rfl)) dX4_truckRanked_12 ⟨Nat.le_of_ble_eq_true rfl, Nat.le_of_ble_eq_true rfl⟩)) (fun z hz => ?_)
        subst hz
        refine lv_iload_n hx hb dX4_truckRanked_15 rfl (lv_at hl 2 rfl) ?_
        refine lv_icmp_ne (tgt := 21) hx hb dX4_truckRanked_16 (by decide) (fun c_16 => ?_) (fun c_16 => ?_)
        · replace hsp := (if_neg c_16).symm.trans hsp
          refine lv_iinc (v := y2_2 + 1) (lv' := [(2, .int (y2_2 + 1)), (0, .ref (ad 0)), (1, .int (x1))]) hx hb dX4_truckRanked_21 hl (k := 0) rfl rfl (by decide) rfl (fun ls hl => ?_)
          refine lv_goto (tgt := 2) hx hb dX4_truckRanked_24 (by decide) ?_
          exact ih_2 (y2_2 + 1) (i_2 + 1) (by rw [hi_2, nI_1]) hlt_2 (by omega) ls (lv_sub hl [0, 1, 2] rfl) hsp
        · replace hsp := (if_pos c_16).symm.trans hsp
          refine lv_iload_n hx hb dX4_truckRanked_19 rfl (lv_at hl 0 rfl) ?_
          exact W.iret (v := y2_2) hx hb hr (fun t ht hW => ft_endi (post := fun z : Int32 => z = s_X4_truckRanked r x1) hsp ht) (fun _ h => absurd h List.not_mem_nil) dX4_truckRanked_20
  refine loop_2 _ (fun y2_2 i_2 hi_2 hm_2 ls hl hsp => ?_) (tn (r 0) + 1) 0 0 rfl (by omega) (by omega) ls (lv_sub hl [0, 1, 2] rfl) hsp
  refine lv_iconst (v := (-1)) hx hb dX4_truckRanked_27 (by decide) ?_
  exact W.iret (v := (-1)) hx hb hr (fun t ht hW => ft_endi (post := fun z : Int32 => z = s_X4_truckRanked r x1) hsp ht) (fun _ h => absurd h List.not_mem_nil) dX4_truckRanked_28
