/-- a start that wants the environment alone -/
def ft_Po (D : va_G) (k : Nat → ClassId) (Z : Nat → Nat → Nat) (A : Nat → Prop) (av : List Value) : Array Value → State → Prop := va_Pc av (fun U => ft_E D k Z A U)
theorem ft_Po.blind {D : va_G} {k : Nat → ClassId} {Z : Nat → Nat → Nat} {A : Nat → Prop} {av : List Value} : FrameBlind (ft_Po D k Z A av) := fun _ U _ _ q => ⟨q.1, q.2.same (u := U) rfl rfl⟩
set_option maxHeartbeats 4000000 in
set_option maxRecDepth 100000 in
/-- Enum.ordinal of a Command -/
theorem c_ordinal (l : Launch) (D : va_G) (k : Nat → ClassId) (Z : Nat → Nat → Nat) (A : Nat → Prop) (i : Nat) (hi : i < 9) : Met l yJx29ce0_ordinal_8abf5 wsJx29ce0_ordinal_8abf5 ({ frames := 0, cells := 0, slots := 0, locals := 0 }) (ft_Po D k Z A [.ref (Z 0 i)]) (vp_Si (fun z : Int32 => z = ([0, 1, 2, 3, 4, 5, 6, 7, 8] : List Int32).getD i 0)) 0 0 (fun _ => False) := by
  refine va_MetF (cc := cJx29ce0_ordinal_8abf5) (maxL := 1) (ret := (some .int)) (by decide +kernel) rfl ?_
  intro p e s m args below meth c s₁ B hml hv
  obtain ⟨hargs, hE⟩ := hv
  subst hargs
  have hx := B.exec
  have hb := B.bytes
  have hr := B.returns
  have hts := atoms_spec (ws := wsJx29ce0_ordinal_8abf5) B.pre
  have hown : s.vm.findClass RJx29ce0 = some m.cls := findClass_of_methodNamed B.named
  have hlocks := B.notSynchronized
  have hS : va_S A s.heap s.heap [] := va_S.rf
  have hl := lv_entry ([.ref (Z 0 i)]) (n := 1) (Nat.le_of_ble_eq_true rfl)
  rw [lg_entry_eq]
  generalize (lg_sl ([.ref (Z 0 i)]) ++ List.replicate (1 - (lg_sl ([.ref (Z 0 i)])).length) Slot.unset).toArray = ls at hl ⊢
  have hl : lv_has ls 1 [(0, .ref (Z 0 i))] := hl
  refine lv_aload_n hx hb dJx29ce0_ordinal_8abf5_0 rfl (lv_at hl 0 rfl) ?_
  refine va_getE hx hb hE.2.2.en hi hS hown (q := ("java/lang/Enum", "ordinal", "I", [0, 1, 2, 3, 4, 5, 6, 7, 8])) List.mem_cons_self (hts (.fieldLink RJx29ce0 7 "java/lang/Enum" "ordinal" "I") (by decide +kernel)) (fun _ h9 => h9) dJx29ce0_ordinal_8abf5_1 ?_
  exact W.iret hx hb hr (fun t ht hW => ft_endi (post := fun z : Int32 => z = ([0, 1, 2, 3, 4, 5, 6, 7, 8] : List Int32).getD i 0) rfl ht) (fun _ h => absurd h List.not_mem_nil) dJx29ce0_ordinal_8abf5_4

def s_X4_carryOut_0 (r : Nat → Int32) (x2 : Int32) (x3 : Int32) (x4 : Int32) : Int32 × (Nat → Int32) := ((s_X4_openTruck r).1, (s_X4_openTruck r).2)
set_option maxHeartbeats 4000000 in
set_option maxRecDepth 100000 in
theorem c_X4_carryOut_0 (l : Launch) (dC : va_G) (Z : Nat → Nat → Nat) (ad : Nat → Nat) (k : Nat → ClassId) (r : Nat → Int32) (x2 : Int32) (x3 : Int32) (x4 : Int32) : Met l yX4_carryOut wsX4_carryOut ({ frames := 5, cells := 0, slots := 0, locals := 112 }) (ft_Pf dC k Z (ft_A 23 ad) [.ref (ad 0), .ref (Z 0 0), .int x2, .int x3, .int x4] (ft_WS ad k r)) (va_Qi (fun (z : Int32) (u : Nat → Int32) => (z, u) = s_X4_carryOut_0 r x2 x3 x4) (fun (u : Nat → Int32) (t : State) => va_P dC vwCl (ft_WS ad k u) t.heap) (ft_A 23 ad)) 0 0 (ft_A 23 ad) := by
  refine Met.ofW (cc := cX4_carryOut) (maxL := 5) (ret := (some .int)) (by decide) rfl ?_
  intro p e s m args below meth c s₁ B hml hv
  obtain ⟨hargs, hP, hE, hD0⟩ := hv
  have hK := hE.1
  subst hargs
  have hx := B.exec
  have hb := B.bytes
  have hr := B.returns
  have hts := atoms_spec (ws := wsX4_carryOut) B.pre
  have hown : s.vm.findClass RX4 = some m.cls := findClass_of_methodNamed B.named
  have hlocks := B.notSynchronized
  have hD := ft_D_self hD0
  have hS : va_S (ft_A 23 ad) s.heap s.heap [] := va_S.rf
  have hl := lv_entry ([.ref (ad 0), .ref (Z 0 0), .int x2, .int x3, .int x4]) (n := 5) (Nat.le_of_ble_eq_true rfl)
  rw [lg_entry_eq]
  generalize (lg_sl ([.ref (ad 0), .ref (Z 0 0), .int x2, .int x3, .int x4]) ++ List.replicate (5 - (lg_sl ([.ref (ad 0), .ref (Z 0 0), .int x2, .int x3, .int x4])).length) Slot.unset).toArray = ls at hl ⊢
  have hl : lv_has ls 5 [(0, .ref (ad 0)), (1, .ref (Z 0 0)), (2, .int (x2)), (3, .int (x3)), (4, .int (x4))] := hl
  have hsp := (s_X4_carryOut_0.eq_1 r x2 x3 x4).symm
  refine va_gets (C := RX0) hx hb hE.2.2.sw hS hown (hts (.fieldLink RX4 69 "FoodTruckRota$1" "$SwitchMap$FoodTruckRota$Command" "[I") (by decide +kernel)) (fun _ h9 => h9) dX4_carryOut_0 ?_
  refine lv_aload_n hx hb dX4_carryOut_3 rfl (lv_at hl 1 rfl) ?_
  refine vp_callSi (va_Run.run (va_runU (As := []) (rest := [.ref (Z 3 1)]) ⟨hx, hb, hml, hown, hts⟩ (c_ordinal l dC k Z (ft_A 23 ad) 0 (by decide)) (va_cwU 0 hts gX4_carryOut_Jx29ce0_ordinal_8abf5_u74X1 rfl rfl rfl rfl (by decide +kernel) ⟨Nat.le_of_ble_eq_true rfl, Nat.le_of_ble_eq_true rfl⟩) ⟨ft_Po.blind, va_recvE hE.2.2.en (i := 0) (by decide) hS, fun U hU hW => ⟨rfl, hE.go hS (fun _ h => h) hU hW⟩⟩ rfl rfl hl.1 rfl (lv_room (Nat.le_of_ble_eq_true rfl)) dX4_carryOut_4 ⟨Nat.le_of_ble_eq_true rfl, Nat.le_of_ble_eq_true rfl⟩)) (fun z hz => ?_)
  have hz : z = 0 := hz
  subst hz
  refine va_ti (v := .int (1)) hx hb hE.2.2.swt hS (pk_in 0 9 (by decide)) rfl dX4_carryOut_7 ?_
  refine lv_tableIn (tgt := 56) hx hb dX4_carryOut_8 (by decide) (by decide) rfl (by decide) ?_
  refine lv_aload_n hx hb dX4_carryOut_56 rfl (lv_at hl 0 rfl) ?_
  refine va_calli (va_runV (As := []) (rest := []) ⟨hx, hb, hml, hown, hts⟩ (c_X4_openTruck l dC ad k r) (cwV 0 hts gX4_carryOut_X4_openTruck rfl rfl rfl (by decide +kernel) ⟨Nat.le_of_ble_eq_true rfl, Nat.le_of_ble_eq_true rfl⟩) (ft_preVd hK hP hD (ci := 6) rfl (ft_get' (by decide) rfl)) rfl rfl hl.1 rfl (lv_room (Nat.le_of_ble_eq_true rfl)) dX4_carryOut_57 ⟨Nat.le_of_ble_eq_true rfl, Nat.le_of_ble_eq_true rfl⟩) hS (fun q _ h => h) (fun q h => h) (fun z u t H1 locs ht hvm hw hB hz1 hk1 hS => ?_)
  obtain ⟨rfl, rfl⟩ : z = (s_X4_openTruck r).1 ∧ u = (s_X4_openTruck r).2 := ⟨congrArg Prod.fst hw, congrArg Prod.snd hw⟩
  rw [ht] at hB
  have hP : va_P dC vwCl (ft_WS ad k ((s_X4_openTruck r).2)) H1 := hB
  have hD : va_D (ft_A 23 ad) (ft_WS ad k ((s_X4_openTruck r).2)) := ft_D_va hD _
  generalize H1 = H at hP hS ⊢
  exact W.iret (v := (s_X4_openTruck r).1) hx hb hr (fun t ht hW => ⟨⟨(s_X4_openTruck r).1, ((s_X4_openTruck r).2), rfl, hsp, ft_heap ht hP⟩, hS.F ht⟩) hS.2.2 dX4_carryOut_60

def s_X4_carryOut_1 (r : Nat → Int32) (x2 : Int32) (x3 : Int32) (x4 : Int32) : Int32 × (Nat → Int32) := ((s_X4_loadPortions r x2 x3 x4).1, (s_X4_loadPortions r x2 x3 x4).2)
set_option maxHeartbeats 4000000 in
set_option maxRecDepth 100000 in
theorem c_X4_carryOut_1 (l : Launch) (dC : va_G) (Z : Nat → Nat → Nat) (ad : Nat → Nat) (k : Nat → ClassId) (r : Nat → Int32) (x2 : Int32) (x3 : Int32) (x4 : Int32) : Met l yX4_carryOut wsX4_carryOut ({ frames := 5, cells := 0, slots := 0, locals := 112 }) (ft_Pf dC k Z (ft_A 23 ad) [.ref (ad 0), .ref (Z 0 1), .int x2, .int x3, .int x4] (ft_WS ad k r)) (va_Qi (fun (z : Int32) (u : Nat → Int32) => (z, u) = s_X4_carryOut_1 r x2 x3 x4) (fun (u : Nat → Int32) (t : State) => va_P dC vwCl (ft_WS ad k u) t.heap) (ft_A 23 ad)) 0 0 (ft_A 23 ad) := by
  refine Met.ofW (cc := cX4_carryOut) (maxL := 5) (ret := (some .int)) (by decide) rfl ?_
  intro p e s m args below meth c s₁ B hml hv
  obtain ⟨hargs, hP, hE, hD0⟩ := hv
  have hK := hE.1
  subst hargs
  have hx := B.exec
  have hb := B.bytes
  have hr := B.returns
  have hts := atoms_spec (ws := wsX4_carryOut) B.pre
  have hown : s.vm.findClass RX4 = some m.cls := findClass_of_methodNamed B.named
  have hlocks := B.notSynchronized
  have hD := ft_D_self hD0
  have hS : va_S (ft_A 23 ad) s.heap s.heap [] := va_S.rf
  have hl := lv_entry ([.ref (ad 0), .ref (Z 0 1), .int x2, .int x3, .int x4]) (n := 5) (Nat.le_of_ble_eq_true rfl)
  rw [lg_entry_eq]
  generalize (lg_sl ([.ref (ad 0), .ref (Z 0 1), .int x2, .int x3, .int x4]) ++ List.replicate (5 - (lg_sl ([.ref (ad 0), .ref (Z 0 1), .int x2, .int x3, .int x4])).length) Slot.unset).toArray = ls at hl ⊢
  have hl : lv_has ls 5 [(0, .ref (ad 0)), (1, .ref (Z 0 1)), (2, .int (x2)), (3, .int (x3)), (4, .int (x4))] := hl
  have hsp := (s_X4_carryOut_1.eq_1 r x2 x3 x4).symm
  refine va_gets (C := RX0) hx hb hE.2.2.sw hS hown (hts (.fieldLink RX4 69 "FoodTruckRota$1" "$SwitchMap$FoodTruckRota$Command" "[I") (by decide +kernel)) (fun _ h9 => h9) dX4_carryOut_0 ?_
  refine lv_aload_n hx hb dX4_carryOut_3 rfl (lv_at hl 1 rfl) ?_
  refine vp_callSi (va_Run.run (va_runU (As := []) (rest := [.ref (Z 3 1)]) ⟨hx, hb, hml, hown, hts⟩ (c_ordinal l dC k Z (ft_A 23 ad) 1 (by decide)) (va_cwU 0 hts gX4_carryOut_Jx29ce0_ordinal_8abf5_u74X1 rfl rfl rfl rfl (by decide +kernel) ⟨Nat.le_of_ble_eq_true rfl, Nat.le_of_ble_eq_true rfl⟩) ⟨ft_Po.blind, va_recvE hE.2.2.en (i := 1) (by decide) hS, fun U hU hW => ⟨rfl, hE.go hS (fun _ h => h) hU hW⟩⟩ rfl rfl hl.1 rfl (lv_room (Nat.le_of_ble_eq_true rfl)) dX4_carryOut_4 ⟨Nat.le_of_ble_eq_true rfl, Nat.le_of_ble_eq_true rfl⟩)) (fun z hz => ?_)
  have hz : z = 1 := hz
  subst hz
  refine va_ti (v := .int (2)) hx hb hE.2.2.swt hS (pk_in 1 9 (by decide)) rfl dX4_carryOut_7 ?_
  refine lv_tableIn (tgt := 61) hx hb dX4_carryOut_8 (by decide) (by decide) rfl (by decide) ?_
  refine lv_aload_n hx hb dX4_carryOut_61 rfl (lv_at hl 0 rfl) ?_
  refine lv_iload_n hx hb dX4_carryOut_62 rfl (lv_at hl 2 rfl) ?_
  refine lv_iload_n hx hb dX4_carryOut_63 rfl (lv_at hl 3 rfl) ?_
  refine lv_iload hx hb dX4_carryOut_64 (lv_at hl 4 rfl) ?_
  refine va_calli (va_runV (As := [.int (x2), .int (x3), .int (x4)]) (rest := []) ⟨hx, hb, hml, hown, hts⟩ (c_X4_loadPortions l dC ad k r x2 x3 x4) (cwV 3 hts gX4_carryOut_X4_loadPortions rfl rfl rfl (by decide +kernel) ⟨Nat.le_of_ble_eq_true rfl, Nat.le_of_ble_eq_true rfl⟩) (ft_preVd hK hP hD (ci := 6) rfl (ft_get' (by decide) rfl)) rfl rfl hl.1 rfl (lv_room (Nat.le_of_ble_eq_true rfl)) dX4_carryOut_66 ⟨Nat.le_of_ble_eq_true rfl, Nat.le_of_ble_eq_true rfl⟩) hS (fun q _ h => h) (fun q h => h) (fun z u t H1 locs ht hvm hw hB hz1 hk1 hS => ?_)
  obtain ⟨rfl, rfl⟩ : z = (s_X4_loadPortions r x2 x3 x4).1 ∧ u = (s_X4_loadPortions r x2 x3 x4).2 := ⟨congrArg Prod.fst hw, congrArg Prod.snd hw⟩
  rw [ht] at hB
  have hP : va_P dC vwCl (ft_WS ad k ((s_X4_loadPortions r x2 x3 x4).2)) H1 := hB
  have hD : va_D (ft_A 23 ad) (ft_WS ad k ((s_X4_loadPortions r x2 x3 x4).2)) := ft_D_va hD _
  generalize H1 = H at hP hS ⊢
  exact W.iret (v := (s_X4_loadPortions r x2 x3 x4).1) hx hb hr (fun t ht hW => ⟨⟨(s_X4_loadPortions r x2 x3 x4).1, ((s_X4_loadPortions r x2 x3 x4).2), rfl, hsp, ft_heap ht hP⟩, hS.F ht⟩) hS.2.2 dX4_carryOut_69

def s_X4_carryOut_2 (r : Nat → Int32) (x2 : Int32) (x3 : Int32) (x4 : Int32) : Int32 × (Nat → Int32) := ((s_X4_changePrice r x2 x3).1, (s_X4_changePrice r x2 x3).2)
set_option maxHeartbeats 4000000 in
set_option maxRecDepth 100000 in
theorem c_X4_carryOut_2 (l : Launch) (dC : va_G) (Z : Nat → Nat → Nat) (ad : Nat → Nat) (k : Nat → ClassId) (r : Nat → Int32) (x2 : Int32) (x3 : Int32) (x4 : Int32) : Met l yX4_carryOut wsX4_carryOut ({ frames := 5, cells := 0, slots := 0, locals := 112 }) (ft_Pf dC k Z (ft_A 23 ad) [.ref (ad 0), .ref (Z 0 2), .int x2, .int x3, .int x4] (ft_WS ad k r)) (va_Qi (fun (z : Int32) (u : Nat → Int32) => (z, u) = s_X4_carryOut_2 r x2 x3 x4) (fun (u : Nat → Int32) (t : State) => va_P dC vwCl (ft_WS ad k u) t.heap) (ft_A 23 ad)) 0 0 (ft_A 23 ad) := by
  refine Met.ofW (cc := cX4_carryOut) (maxL := 5) (ret := (some .int)) (by decide) rfl ?_
  intro p e s m args below meth c s₁ B hml hv
  obtain ⟨hargs, hP, hE, hD0⟩ := hv
  have hK := hE.1
  subst hargs
  have hx := B.exec
  have hb := B.bytes
  have hr := B.returns
  have hts := atoms_spec (ws := wsX4_carryOut) B.pre
  have hown : s.vm.findClass RX4 = some m.cls := findClass_of_methodNamed B.named
  have hlocks := B.notSynchronized
  have hD := ft_D_self hD0
  have hS : va_S (ft_A 23 ad) s.heap s.heap [] := va_S.rf
  have hl := lv_entry ([.ref (ad 0), .ref (Z 0 2), .int x2, .int x3, .int x4]) (n := 5) (Nat.le_of_ble_eq_true rfl)
  rw [lg_entry_eq]
  generalize (lg_sl ([.ref (ad 0), .ref (Z 0 2), .int x2, .int x3, .int x4]) ++ List.replicate (5 - (lg_sl ([.ref (ad 0), .ref (Z 0 2), .int x2, .int x3, .int x4])).length) Slot.unset).toArray = ls at hl ⊢
  have hl : lv_has ls 5 [(0, .ref (ad 0)), (1, .ref (Z 0 2)), (2, .int (x2)), (3, .int (x3)), (4, .int (x4))] := hl
  have hsp := (s_X4_carryOut_2.eq_1 r x2 x3 x4).symm
  refine va_gets (C := RX0) hx hb hE.2.2.sw hS hown (hts (.fieldLink RX4 69 "FoodTruckRota$1" "$SwitchMap$FoodTruckRota$Command" "[I") (by decide +kernel)) (fun _ h9 => h9) dX4_carryOut_0 ?_
  refine lv_aload_n hx hb dX4_carryOut_3 rfl (lv_at hl 1 rfl) ?_
  refine vp_callSi (va_Run.run (va_runU (As := []) (rest := [.ref (Z 3 1)]) ⟨hx, hb, hml, hown, hts⟩ (c_ordinal l dC k Z (ft_A 23 ad) 2 (by decide)) (va_cwU 0 hts gX4_carryOut_Jx29ce0_ordinal_8abf5_u74X1 rfl rfl rfl rfl (by decide +kernel) ⟨Nat.le_of_ble_eq_true rfl, Nat.le_of_ble_eq_true rfl⟩) ⟨ft_Po.blind, va_recvE hE.2.2.en (i := 2) (by decide) hS, fun U hU hW => ⟨rfl, hE.go hS (fun _ h => h) hU hW⟩⟩ rfl rfl hl.1 rfl (lv_room (Nat.le_of_ble_eq_true rfl)) dX4_carryOut_4 ⟨Nat.le_of_ble_eq_true rfl, Nat.le_of_ble_eq_true rfl⟩)) (fun z hz => ?_)
  have hz : z = 2 := hz
  subst hz
  refine va_ti (v := .int (3)) hx hb hE.2.2.swt hS (pk_in 2 9 (by decide)) rfl dX4_carryOut_7 ?_
  refine lv_tableIn (tgt := 70) hx hb dX4_carryOut_8 (by decide) (by decide) rfl (by decide) ?_
  refine lv_aload_n hx hb dX4_carryOut_70 rfl (lv_at hl 0 rfl) ?_
  refine lv_iload_n hx hb dX4_carryOut_71 rfl (lv_at hl 2 rfl) ?_
  refine lv_iload_n hx hb dX4_carryOut_72 rfl (lv_at hl 3 rfl) ?_
  refine va_calli (va_runV (As := [.int (x2), .int (x3)]) (rest := []) ⟨hx, hb, hml, hown, hts⟩ (c_X4_changePrice l dC ad k r x2 x3) (cwV 2 hts gX4_carryOut_X4_changePrice rfl rfl rfl (by decide +kernel) ⟨Nat.le_of_ble_eq_true rfl, Nat.le_of_ble_eq_true rfl⟩) (ft_preVd hK hP hD (ci := 6) rfl (ft_get' (by decide) rfl)) rfl rfl hl.1 rfl (lv_room (Nat.le_of_ble_eq_true rfl)) dX4_carryOut_73 ⟨Nat.le_of_ble_eq_true rfl, Nat.le_of_ble_eq_true rfl⟩) hS (fun q _ h => h) (fun q h => h) (fun z u t H1 locs ht hvm hw hB hz1 hk1 hS => ?_)
  obtain ⟨rfl, rfl⟩ : z = (s_X4_changePrice r x2 x3).1 ∧ u = (s_X4_changePrice r x2 x3).2 := ⟨congrArg Prod.fst hw, congrArg Prod.snd hw⟩
  rw [ht] at hB
  have hP : va_P dC vwCl (ft_WS ad k ((s_X4_changePrice r x2 x3).2)) H1 := hB
  have hD : va_D (ft_A 23 ad) (ft_WS ad k ((s_X4_changePrice r x2 x3).2)) := ft_D_va hD _
  generalize H1 = H at hP hS ⊢
  exact W.iret (v := (s_X4_changePrice r x2 x3).1) hx hb hr (fun t ht hW => ⟨⟨(s_X4_changePrice r x2 x3).1, ((s_X4_changePrice r x2 x3).2), rfl, hsp, ft_heap ht hP⟩, hS.F ht⟩) hS.2.2 dX4_carryOut_76

def s_X4_carryOut_3 (r : Nat → Int32) (x2 : Int32) (x3 : Int32) (x4 : Int32) : Int32 × (Nat → Int32) := ((s_X4_givePermit r x2 x3).1, (s_X4_givePermit r x2 x3).2)
set_option maxHeartbeats 4000000 in
set_option maxRecDepth 100000 in
theorem c_X4_carryOut_3 (l : Launch) (dC : va_G) (Z : Nat → Nat → Nat) (ad : Nat → Nat) (k : Nat → ClassId) (r : Nat → Int32) (x2 : Int32) (x3 : Int32) (x4 : Int32) : Met l yX4_carryOut wsX4_carryOut ({ frames := 5, cells := 0, slots := 0, locals := 112 }) (ft_Pf dC k Z (ft_A 23 ad) [.ref (ad 0), .ref (Z 0 3), .int x2, .int x3, .int x4] (ft_WS ad k r)) (va_Qi (fun (z : Int32) (u : Nat → Int32) => (z, u) = s_X4_carryOut_3 r x2 x3 x4) (fun (u : Nat → Int32) (t : State) => va_P dC vwCl (ft_WS ad k u) t.heap) (ft_A 23 ad)) 0 0 (ft_A 23 ad) := by
  refine Met.ofW (cc := cX4_carryOut) (maxL := 5) (ret := (some .int)) (by decide) rfl ?_
  intro p e s m args below meth c s₁ B hml hv
  obtain ⟨hargs, hP, hE, hD0⟩ := hv
  have hK := hE.1
  subst hargs
  have hx := B.exec
  have hb := B.bytes
  have hr := B.returns
  have hts := atoms_spec (ws := wsX4_carryOut) B.pre
  have hown : s.vm.findClass RX4 = some m.cls := findClass_of_methodNamed B.named
  have hlocks := B.notSynchronized
  have hD := ft_D_self hD0
  have hS : va_S (ft_A 23 ad) s.heap s.heap [] := va_S.rf
  have hl := lv_entry ([.ref (ad 0), .ref (Z 0 3), .int x2, .int x3, .int x4]) (n := 5) (Nat.le_of_ble_eq_true rfl)
  rw [lg_entry_eq]
  generalize (lg_sl ([.ref (ad 0), .ref (Z 0 3), .int x2, .int x3, .int x4]) ++ List.replicate (5 - (lg_sl ([.ref (ad 0), .ref (Z 0 3), .int x2, .int x3, .int x4])).length) Slot.unset).toArray = ls at hl ⊢
  have hl : lv_has ls 5 [(0, .ref (ad 0)), (1, .ref (Z 0 3)), (2, .int (x2)), (3, .int (x3)), (4, .int (x4))] := hl
  have hsp := (s_X4_carryOut_3.eq_1 r x2 x3 x4).symm
  refine va_gets (C := RX0) hx hb hE.2.2.sw hS hown (hts (.fieldLink RX4 69 "FoodTruckRota$1" "$SwitchMap$FoodTruckRota$Command" "[I") (by decide +kernel)) (fun _ h9 => h9) dX4_carryOut_0 ?_
  refine lv_aload_n hx hb dX4_carryOut_3 rfl (lv_at hl 1 rfl) ?_
  refine vp_callSi (va_Run.run (va_runU (As := []) (rest := [.ref (Z 3 1)]) ⟨hx, hb, hml, hown, hts⟩ (c_ordinal l dC k Z (ft_A 23 ad) 3 (by decide)) (va_cwU 0 hts gX4_carryOut_Jx29ce0_ordinal_8abf5_u74X1 rfl rfl rfl rfl (by decide +kernel) ⟨Nat.le_of_ble_eq_true rfl, Nat.le_of_ble_eq_true rfl⟩) ⟨ft_Po.blind, va_recvE hE.2.2.en (i := 3) (by decide) hS, fun U hU hW => ⟨rfl, hE.go hS (fun _ h => h) hU hW⟩⟩ rfl rfl hl.1 rfl (lv_room (Nat.le_of_ble_eq_true rfl)) dX4_carryOut_4 ⟨Nat.le_of_ble_eq_true rfl, Nat.le_of_ble_eq_true rfl⟩)) (fun z hz => ?_)
  have hz : z = 3 := hz
  subst hz
  refine va_ti (v := .int (4)) hx hb hE.2.2.swt hS (pk_in 3 9 (by decide)) rfl dX4_carryOut_7 ?_
  refine lv_tableIn (tgt := 77) hx hb dX4_carryOut_8 (by decide) (by decide) rfl (by decide) ?_
  refine lv_aload_n hx hb dX4_carryOut_77 rfl (lv_at hl 0 rfl) ?_
  refine lv_iload_n hx hb dX4_carryOut_78 rfl (lv_at hl 2 rfl) ?_
  refine lv_iload_n hx hb dX4_carryOut_79 rfl (lv_at hl 3 rfl) ?_
  refine va_calli (va_runV (As := [.int (x2), .int (x3)]) (rest := []) ⟨hx, hb, hml, hown, hts⟩ (c_X4_givePermit l dC ad k r x2 x3) (cwV 2 hts gX4_carryOut_X4_givePermit rfl rfl rfl (by decide +kernel) ⟨Nat.le_of_ble_eq_true rfl, Nat.le_of_ble_eq_true rfl⟩) (ft_preVd hK hP hD (ci := 6) rfl (ft_get' (by decide) rfl)) rfl rfl hl.1 rfl (lv_room (Nat.le_of_ble_eq_true rfl)) dX4_carryOut_80 ⟨Nat.le_of_ble_eq_true rfl, Nat.le_of_ble_eq_true rfl⟩) hS (fun q _ h => h) (fun q h => h) (fun z u t H1 locs ht hvm hw hB hz1 hk1 hS => ?_)
  obtain ⟨rfl, rfl⟩ : z = (s_X4_givePermit r x2 x3).1 ∧ u = (s_X4_givePermit r x2 x3).2 := ⟨congrArg Prod.fst hw, congrArg Prod.snd hw⟩
  rw [ht] at hB
  have hP : va_P dC vwCl (ft_WS ad k ((s_X4_givePermit r x2 x3).2)) H1 := hB
  have hD : va_D (ft_A 23 ad) (ft_WS ad k ((s_X4_givePermit r x2 x3).2)) := ft_D_va hD _
  generalize H1 = H at hP hS ⊢
  exact W.iret (v := (s_X4_givePermit r x2 x3).1) hx hb hr (fun t ht hW => ⟨⟨(s_X4_givePermit r x2 x3).1, ((s_X4_givePermit r x2 x3).2), rfl, hsp, ft_heap ht hP⟩, hS.F ht⟩) hS.2.2 dX4_carryOut_83

def s_X4_carryOut_4 (r : Nat → Int32) (x2 : Int32) (x3 : Int32) (x4 : Int32) : Int32 × (Nat → Int32) := ((s_X4_takePermit r x2 x3).1, (s_X4_takePermit r x2 x3).2)
set_option maxHeartbeats 4000000 in
set_option maxRecDepth 100000 in
theorem c_X4_carryOut_4 (l : Launch) (dC : va_G) (Z : Nat → Nat → Nat) (ad : Nat → Nat) (k : Nat → ClassId) (r : Nat → Int32) (x2 : Int32) (x3 : Int32) (x4 : Int32) : Met l yX4_carryOut wsX4_carryOut ({ frames := 5, cells := 0, slots := 0, locals := 112 }) (ft_Pf dC k Z (ft_A 23 ad) [.ref (ad 0), .ref (Z 0 4), .int x2, .int x3, .int x4] (ft_WS ad k r)) (va_Qi (fun (z : Int32) (u : Nat → Int32) => (z, u) = s_X4_carryOut_4 r x2 x3 x4) (fun (u : Nat → Int32) (t : State) => va_P dC vwCl (ft_WS ad k u) t.heap) (ft_A 23 ad)) 0 0 (ft_A 23 ad) := by
  refine Met.ofW (cc := cX4_carryOut) (maxL := 5) (ret := (some .int)) (by decide) rfl ?_
  intro p e s m args below meth c s₁ B hml hv
  obtain ⟨hargs, hP, hE, hD0⟩ := hv
  have hK := hE.1
  subst hargs
  have hx := B.exec
  have hb := B.bytes
  have hr := B.returns
  have hts := atoms_spec (ws := wsX4_carryOut) B.pre
  have hown : s.vm.findClass RX4 = some m.cls := findClass_of_methodNamed B.named
  have hlocks := B.notSynchronized
  have hD := ft_D_self hD0
  have hS : va_S (ft_A 23 ad) s.heap s.heap [] := va_S.rf
  have hl := lv_entry ([.ref (ad 0), .ref (Z 0 4), .int x2, .int x3, .int x4]) (n := 5) (Nat.le_of_ble_eq_true rfl)
  rw [lg_entry_eq]
  generalize (lg_sl ([.ref (ad 0), .ref (Z 0 4), .int x2, .int x3, .int x4]) ++ List.replicate (5 - (lg_sl ([.ref (ad 0), .ref (Z 0 4), .int x2, .int x3, .int x4])).length) Slot.unset).toArray = ls at hl ⊢
  have hl : lv_has ls 5 [(0, .ref (ad 0)), (1, .ref (Z 0 4)), (2, .int (x2)), (3, .int (x3)), (4, .int (x4))] := hl
  have hsp := (s_X4_carryOut_4.eq_1 r x2 x3 x4).symm
  refine va_gets (C := RX0) hx hb hE.2.2.sw hS hown (hts (.fieldLink RX4 69 "FoodTruckRota$1" "$SwitchMap$FoodTruckRota$Command" "[I") (by decide +kernel)) (fun _ h9 => h9) dX4_carryOut_0 ?_
  refine lv_aload_n hx hb dX4_carryOut_3 rfl (lv_at hl 1 rfl) ?_
  refine vp_callSi (va_Run.run (va_runU (As := []) (rest := [.ref (Z 3 1)]) ⟨hx, hb, hml, hown, hts⟩ (c_ordinal l dC k Z (ft_A 23 ad) 4 (by decide)) (va_cwU 0 hts gX4_carryOut_Jx29ce0_ordinal_8abf5_u74X1 rfl rfl rfl rfl (by decide +kernel) ⟨Nat.le_of_ble_eq_true rfl, Nat.le_of_ble_eq_true rfl⟩) ⟨ft_Po.blind, va_recvE hE.2.2.en (i := 4) (by decide) hS, fun U hU hW => ⟨rfl, hE.go hS (fun _ h => h) hU hW⟩⟩ rfl rfl hl.1 rfl (lv_room (Nat.le_of_ble_eq_true rfl)) dX4_carryOut_4 ⟨Nat.le_of_ble_eq_true rfl, Nat.le_of_ble_eq_true rfl⟩)) (fun z hz => ?_)
  have hz : z = 4 := hz
  subst hz
  refine va_ti (v := .int (5)) hx hb hE.2.2.swt hS (pk_in 4 9 (by decide)) rfl dX4_carryOut_7 ?_
  refine lv_tableIn (tgt := 84) hx hb dX4_carryOut_8 (by decide) (by decide) rfl (by decide) ?_
  refine lv_aload_n hx hb dX4_carryOut_84 rfl (lv_at hl 0 rfl) ?_
  refine lv_iload_n hx hb dX4_carryOut_85 rfl (lv_at hl 2 rfl) ?_
  refine lv_iload_n hx hb dX4_carryOut_86 rfl (lv_at hl 3 rfl) ?_
  refine va_calli (va_runV (As := [.int (x2), .int (x3)]) (rest := []) ⟨hx, hb, hml, hown, hts⟩ (c_X4_takePermit l dC ad k r x2 x3) (cwV 2 hts gX4_carryOut_X4_takePermit rfl rfl rfl (by decide +kernel) ⟨Nat.le_of_ble_eq_true rfl, Nat.le_of_ble_eq_true rfl⟩) (ft_preVd hK hP hD (ci := 6) rfl (ft_get' (by decide) rfl)) rfl rfl hl.1 rfl (lv_room (Nat.le_of_ble_eq_true rfl)) dX4_carryOut_87 ⟨Nat.le_of_ble_eq_true rfl, Nat.le_of_ble_eq_true rfl⟩) hS (fun q _ h => h) (fun q h => h) (fun z u t H1 locs ht hvm hw hB hz1 hk1 hS => ?_)
  obtain ⟨rfl, rfl⟩ : z = (s_X4_takePermit r x2 x3).1 ∧ u = (s_X4_takePermit r x2 x3).2 := ⟨congrArg Prod.fst hw, congrArg Prod.snd hw⟩
  rw [ht] at hB
  have hP : va_P dC vwCl (ft_WS ad k ((s_X4_takePermit r x2 x3).2)) H1 := hB
  have hD : va_D (ft_A 23 ad) (ft_WS ad k ((s_X4_takePermit r x2 x3).2)) := ft_D_va hD _
  generalize H1 = H at hP hS ⊢
  exact W.iret (v := (s_X4_takePermit r x2 x3).1) hx hb hr (fun t ht hW => ⟨⟨(s_X4_takePermit r x2 x3).1, ((s_X4_takePermit r x2 x3).2), rfl, hsp, ft_heap ht hP⟩, hS.F ht⟩) hS.2.2 dX4_carryOut_90

def s_X4_carryOut_5 (r : Nat → Int32) (x2 : Int32) (x3 : Int32) (x4 : Int32) : Int32 × (Nat → Int32) := ((s_X4_holdPitch r x2 x3 x4).1, (s_X4_holdPitch r x2 x3 x4).2)
set_option maxHeartbeats 4000000 in
set_option maxRecDepth 100000 in
theorem c_X4_carryOut_5 (l : Launch) (dC : va_G) (Z : Nat → Nat → Nat) (ad : Nat → Nat) (k : Nat → ClassId) (r : Nat → Int32) (x2 : Int32) (x3 : Int32) (x4 : Int32) : Met l yX4_carryOut wsX4_carryOut ({ frames := 5, cells := 0, slots := 0, locals := 112 }) (ft_Pf dC k Z (ft_A 23 ad) [.ref (ad 0), .ref (Z 0 5), .int x2, .int x3, .int x4] (ft_WS ad k r)) (va_Qi (fun (z : Int32) (u : Nat → Int32) => (z, u) = s_X4_carryOut_5 r x2 x3 x4) (fun (u : Nat → Int32) (t : State) => va_P dC vwCl (ft_WS ad k u) t.heap) (ft_A 23 ad)) 0 0 (ft_A 23 ad) := by
  refine Met.ofW (cc := cX4_carryOut) (maxL := 5) (ret := (some .int)) (by decide) rfl ?_
  intro p e s m args below meth c s₁ B hml hv
  obtain ⟨hargs, hP, hE, hD0⟩ := hv
  have hK := hE.1
  subst hargs
  have hx := B.exec
  have hb := B.bytes
  have hr := B.returns
  have hts := atoms_spec (ws := wsX4_carryOut) B.pre
  have hown : s.vm.findClass RX4 = some m.cls := findClass_of_methodNamed B.named
  have hlocks := B.notSynchronized
  have hD := ft_D_self hD0
  have hS : va_S (ft_A 23 ad) s.heap s.heap [] := va_S.rf
  have hl := lv_entry ([.ref (ad 0), .ref (Z 0 5), .int x2, .int x3, .int x4]) (n := 5) (Nat.le_of_ble_eq_true rfl)
  rw [lg_entry_eq]
  generalize (lg_sl ([.ref (ad 0), .ref (Z 0 5), .int x2, .int x3, .int x4]) ++ List.replicate (5 - (lg_sl ([.ref (ad 0), .ref (Z 0 5), .int x2, .int x3, .int x4])).length) Slot.unset).toArray = ls at hl ⊢
  have hl : lv_has ls 5 [(0, .ref (ad 0)), (1, .ref (Z 0 5)), (2, .int (x2)), (3, .int (x3)), (4, .int (x4))] := hl
  have hsp := (s_X4_carryOut_5.eq_1 r x2 x3 x4).symm
  refine va_gets (C := RX0) hx hb hE.2.2.sw hS hown (hts (.fieldLink RX4 69 "FoodTruckRota$1" "$SwitchMap$FoodTruckRota$Command" "[I") (by decide +kernel)) (fun _ h9 => h9) dX4_carryOut_0 ?_
  refine lv_aload_n hx hb dX4_carryOut_3 rfl (lv_at hl 1 rfl) ?_
  refine vp_callSi (va_Run.run (va_runU (As := []) (rest := [.ref (Z 3 1)]) ⟨hx, hb, hml, hown, hts⟩ (c_ordinal l dC k Z (ft_A 23 ad) 5 (by decide)) (va_cwU 0 hts gX4_carryOut_Jx29ce0_ordinal_8abf5_u74X1 rfl rfl rfl rfl (by decide +kernel) ⟨Nat.le_of_ble_eq_true rfl, Nat.le_of_ble_eq_true rfl⟩) ⟨ft_Po.blind, va_recvE hE.2.2.en (i := 5) (by decide) hS, fun U hU hW => ⟨rfl, hE.go hS (fun _ h => h) hU hW⟩⟩ rfl rfl hl.1 rfl (lv_room (Nat.le_of_ble_eq_true rfl)) dX4_carryOut_4 ⟨Nat.le_of_ble_eq_true rfl, Nat.le_of_ble_eq_true rfl⟩)) (fun z hz => ?_)
  have hz : z = 5 := hz
  subst hz
  refine va_ti (v := .int (6)) hx hb hE.2.2.swt hS (pk_in 5 9 (by decide)) rfl dX4_carryOut_7 ?_
  refine lv_tableIn (tgt := 91) hx hb dX4_carryOut_8 (by decide) (by decide) rfl (by decide) ?_
  refine lv_aload_n hx hb dX4_carryOut_91 rfl (lv_at hl 0 rfl) ?_
  refine lv_iload_n hx hb dX4_carryOut_92 rfl (lv_at hl 2 rfl) ?_
  refine lv_iload_n hx hb dX4_carryOut_93 rfl (lv_at hl 3 rfl) ?_
  refine lv_iload hx hb dX4_carryOut_94 (lv_at hl 4 rfl) ?_
  refine va_calli (va_runV (As := [.int (x2), .int (x3), .int (x4)]) (rest := []) ⟨hx, hb, hml, hown, hts⟩ (c_X4_holdPitch l dC ad k r x2 x3 x4) (cwV 3 hts gX4_carryOut_X4_holdPitch rfl rfl rfl (by decide +kernel) ⟨Nat.le_of_ble_eq_true rfl, Nat.le_of_ble_eq_true rfl⟩) (ft_preVd hK hP hD (ci := 6) rfl (ft_get' (by decide) rfl)) rfl rfl hl.1 rfl (lv_room (Nat.le_of_ble_eq_true rfl)) dX4_carryOut_96 ⟨Nat.le_of_ble_eq_true rfl, Nat.le_of_ble_eq_true rfl⟩) hS (fun q _ h => h) (fun q h => h) (fun z u t H1 locs ht hvm hw hB hz1 hk1 hS => ?_)
  obtain ⟨rfl, rfl⟩ : z = (s_X4_holdPitch r x2 x3 x4).1 ∧ u = (s_X4_holdPitch r x2 x3 x4).2 := ⟨congrArg Prod.fst hw, congrArg Prod.snd hw⟩
  rw [ht] at hB
  have hP : va_P dC vwCl (ft_WS ad k ((s_X4_holdPitch r x2 x3 x4).2)) H1 := hB
  have hD : va_D (ft_A 23 ad) (ft_WS ad k ((s_X4_holdPitch r x2 x3 x4).2)) := ft_D_va hD _
  generalize H1 = H at hP hS ⊢
  exact W.iret (v := (s_X4_holdPitch r x2 x3 x4).1) hx hb hr (fun t ht hW => ⟨⟨(s_X4_holdPitch r x2 x3 x4).1, ((s_X4_holdPitch r x2 x3 x4).2), rfl, hsp, ft_heap ht hP⟩, hS.F ht⟩) hS.2.2 dX4_carryOut_99

def s_X4_carryOut_6 (r : Nat → Int32) (x2 : Int32) (x3 : Int32) (x4 : Int32) : Int32 × (Nat → Int32) := ((s_X4_leavePitch r x2 x3).1, (s_X4_leavePitch r x2 x3).2)
set_option maxHeartbeats 4000000 in
set_option maxRecDepth 100000 in
theorem c_X4_carryOut_6 (l : Launch) (dC : va_G) (Z : Nat → Nat → Nat) (ad : Nat → Nat) (k : Nat → ClassId) (r : Nat → Int32) (x2 : Int32) (x3 : Int32) (x4 : Int32) : Met l yX4_carryOut wsX4_carryOut ({ frames := 5, cells := 0, slots := 0, locals := 112 }) (ft_Pf dC k Z (ft_A 23 ad) [.ref (ad 0), .ref (Z 0 6), .int x2, .int x3, .int x4] (ft_WS ad k r)) (va_Qi (fun (z : Int32) (u : Nat → Int32) => (z, u) = s_X4_carryOut_6 r x2 x3 x4) (fun (u : Nat → Int32) (t : State) => va_P dC vwCl (ft_WS ad k u) t.heap) (ft_A 23 ad)) 0 0 (ft_A 23 ad) := by
  refine Met.ofW (cc := cX4_carryOut) (maxL := 5) (ret := (some .int)) (by decide) rfl ?_
  intro p e s m args below meth c s₁ B hml hv
  obtain ⟨hargs, hP, hE, hD0⟩ := hv
  have hK := hE.1
  subst hargs
  have hx := B.exec
  have hb := B.bytes
  have hr := B.returns
  have hts := atoms_spec (ws := wsX4_carryOut) B.pre
  have hown : s.vm.findClass RX4 = some m.cls := findClass_of_methodNamed B.named
  have hlocks := B.notSynchronized
  have hD := ft_D_self hD0
  have hS : va_S (ft_A 23 ad) s.heap s.heap [] := va_S.rf
  have hl := lv_entry ([.ref (ad 0), .ref (Z 0 6), .int x2, .int x3, .int x4]) (n := 5) (Nat.le_of_ble_eq_true rfl)
  rw [lg_entry_eq]
  generalize (lg_sl ([.ref (ad 0), .ref (Z 0 6), .int x2, .int x3, .int x4]) ++ List.replicate (5 - (lg_sl ([.ref (ad 0), .ref (Z 0 6), .int x2, .int x3, .int x4])).length) Slot.unset).toArray = ls at hl ⊢
  have hl : lv_has ls 5 [(0, .ref (ad 0)), (1, .ref (Z 0 6)), (2, .int (x2)), (3, .int (x3)), (4, .int (x4))] := hl
  have hsp := (s_X4_carryOut_6.eq_1 r x2 x3 x4).symm
  refine va_gets (C := RX0) hx hb hE.2.2.sw hS hown (hts (.fieldLink RX4 69 "FoodTruckRota$1" "$SwitchMap$FoodTruckRota$Command" "[I") (by decide +kernel)) (fun _ h9 => h9) dX4_carryOut_0 ?_
  refine lv_aload_n hx hb dX4_carryOut_3 rfl (lv_at hl 1 rfl) ?_
  refine vp_callSi (va_Run.run (va_runU (As := []) (rest := [.ref (Z 3 1)]) ⟨hx, hb, hml, hown, hts⟩ (c_ordinal l dC k Z (ft_A 23 ad) 6 (by decide)) (va_cwU 0 hts gX4_carryOut_Jx29ce0_ordinal_8abf5_u74X1 rfl rfl rfl rfl (by decide +kernel) ⟨Nat.le_of_ble_eq_true rfl, Nat.le_of_ble_eq_true rfl⟩) ⟨ft_Po.blind, va_recvE hE.2.2.en (i := 6) (by decide) hS, fun U hU hW => ⟨rfl, hE.go hS (fun _ h => h) hU hW⟩⟩ rfl rfl hl.1 rfl (lv_room (Nat.le_of_ble_eq_true rfl)) dX4_carryOut_4 ⟨Nat.le_of_ble_eq_true rfl, Nat.le_of_ble_eq_true rfl⟩)) (fun z hz => ?_)
  have hz : z = 6 := hz
  subst hz
  refine va_ti (v := .int (7)) hx hb hE.2.2.swt hS (pk_in 6 9 (by decide)) rfl dX4_carryOut_7 ?_
  refine lv_tableIn (tgt := 100) hx hb dX4_carryOut_8 (by decide) (by decide) rfl (by decide) ?_
  refine lv_aload_n hx hb dX4_carryOut_100 rfl (lv_at hl 0 rfl) ?_
  refine lv_iload_n hx hb dX4_carryOut_101 rfl (lv_at hl 2 rfl) ?_
  refine lv_iload_n hx hb dX4_carryOut_102 rfl (lv_at hl 3 rfl) ?_
  refine va_calli (va_runV (As := [.int (x2), .int (x3)]) (rest := []) ⟨hx, hb, hml, hown, hts⟩ (c_X4_leavePitch l dC ad k r x2 x3) (cwV 2 hts gX4_carryOut_X4_leavePitch rfl rfl rfl (by decide +kernel) ⟨Nat.le_of_ble_eq_true rfl, Nat.le_of_ble_eq_true rfl⟩) (ft_preVd hK hP hD (ci := 6) rfl (ft_get' (by decide) rfl)) rfl rfl hl.1 rfl (lv_room (Nat.le_of_ble_eq_true rfl)) dX4_carryOut_103 ⟨Nat.le_of_ble_eq_true rfl, Nat.le_of_ble_eq_true rfl⟩) hS (fun q _ h => h) (fun q h => h) (fun z u t H1 locs ht hvm hw hB hz1 hk1 hS => ?_)
  obtain ⟨rfl, rfl⟩ : z = (s_X4_leavePitch r x2 x3).1 ∧ u = (s_X4_leavePitch r x2 x3).2 := ⟨congrArg Prod.fst hw, congrArg Prod.snd hw⟩
  rw [ht] at hB
  have hP : va_P dC vwCl (ft_WS ad k ((s_X4_leavePitch r x2 x3).2)) H1 := hB
  have hD : va_D (ft_A 23 ad) (ft_WS ad k ((s_X4_leavePitch r x2 x3).2)) := ft_D_va hD _
  generalize H1 = H at hP hS ⊢
  exact W.iret (v := (s_X4_leavePitch r x2 x3).1) hx hb hr (fun t ht hW => ⟨⟨(s_X4_leavePitch r x2 x3).1, ((s_X4_leavePitch r x2 x3).2), rfl, hsp, ft_heap ht hP⟩, hS.F ht⟩) hS.2.2 dX4_carryOut_106

def s_X4_carryOut_7 (r : Nat → Int32) (x2 : Int32) (x3 : Int32) (x4 : Int32) : Int32 × (Nat → Int32) := ((s_X4_changeWeather r x2).1, (s_X4_changeWeather r x2).2)
set_option maxHeartbeats 4000000 in
set_option maxRecDepth 100000 in
theorem c_X4_carryOut_7 (l : Launch) (dC : va_G) (Z : Nat → Nat → Nat) (ad : Nat → Nat) (k : Nat → ClassId) (r : Nat → Int32) (x2 : Int32) (x3 : Int32) (x4 : Int32) : Met l yX4_carryOut wsX4_carryOut ({ frames := 5, cells := 0, slots := 0, locals := 112 }) (ft_Pf dC k Z (ft_A 23 ad) [.ref (ad 0), .ref (Z 0 7), .int x2, .int x3, .int x4] (ft_WS ad k r)) (va_Qi (fun (z : Int32) (u : Nat → Int32) => (z, u) = s_X4_carryOut_7 r x2 x3 x4) (fun (u : Nat → Int32) (t : State) => va_P dC vwCl (ft_WS ad k u) t.heap) (ft_A 23 ad)) 0 0 (ft_A 23 ad) := by
  refine Met.ofW (cc := cX4_carryOut) (maxL := 5) (ret := (some .int)) (by decide) rfl ?_
  intro p e s m args below meth c s₁ B hml hv
  obtain ⟨hargs, hP, hE, hD0⟩ := hv
  have hK := hE.1
  subst hargs
  have hx := B.exec
  have hb := B.bytes
  have hr := B.returns
  have hts := atoms_spec (ws := wsX4_carryOut) B.pre
  have hown : s.vm.findClass RX4 = some m.cls := findClass_of_methodNamed B.named
  have hlocks := B.notSynchronized
  have hD := ft_D_self hD0
  have hS : va_S (ft_A 23 ad) s.heap s.heap [] := va_S.rf
  have hl := lv_entry ([.ref (ad 0), .ref (Z 0 7), .int x2, .int x3, .int x4]) (n := 5) (Nat.le_of_ble_eq_true rfl)
  rw [lg_entry_eq]
  generalize (lg_sl ([.ref (ad 0), .ref (Z 0 7), .int x2, .int x3, .int x4]) ++ List.replicate (5 - (lg_sl ([.ref (ad 0), .ref (Z 0 7), .int x2, .int x3, .int x4])).length) Slot.unset).toArray = ls at hl ⊢
  have hl : lv_has ls 5 [(0, .ref (ad 0)), (1, .ref (Z 0 7)), (2, .int (x2)), (3, .int (x3)), (4, .int (x4))] := hl
  have hsp := (s_X4_carryOut_7.eq_1 r x2 x3 x4).symm
  refine va_gets (C := RX0) hx hb hE.2.2.sw hS hown (hts (.fieldLink RX4 69 "FoodTruckRota$1" "$SwitchMap$FoodTruckRota$Command" "[I") (by decide +kernel)) (fun _ h9 => h9) dX4_carryOut_0 ?_
  refine lv_aload_n hx hb dX4_carryOut_3 rfl (lv_at hl 1 rfl) ?_
  refine vp_callSi (va_Run.run (va_runU (As := []) (rest := [.ref (Z 3 1)]) ⟨hx, hb, hml, hown, hts⟩ (c_ordinal l dC k Z (ft_A 23 ad) 7 (by decide)) (va_cwU 0 hts gX4_carryOut_Jx29ce0_ordinal_8abf5_u74X1 rfl rfl rfl rfl (by decide +kernel) ⟨Nat.le_of_ble_eq_true rfl, Nat.le_of_ble_eq_true rfl⟩) ⟨ft_Po.blind, va_recvE hE.2.2.en (i := 7) (by decide) hS, fun U hU hW => ⟨rfl, hE.go hS (fun _ h => h) hU hW⟩⟩ rfl rfl hl.1 rfl (lv_room (Nat.le_of_ble_eq_true rfl)) dX4_carryOut_4 ⟨Nat.le_of_ble_eq_true rfl, Nat.le_of_ble_eq_true rfl⟩)) (fun z hz => ?_)
  have hz : z = 7 := hz
  subst hz
  refine va_ti (v := .int (8)) hx hb hE.2.2.swt hS (pk_in 7 9 (by decide)) rfl dX4_carryOut_7 ?_
  refine lv_tableIn (tgt := 107) hx hb dX4_carryOut_8 (by decide) (by decide) rfl (by decide) ?_
  refine lv_aload_n hx hb dX4_carryOut_107 rfl (lv_at hl 0 rfl) ?_
  refine lv_iload_n hx hb dX4_carryOut_108 rfl (lv_at hl 2 rfl) ?_
  refine va_calli (va_runV (As := [.int (x2)]) (rest := []) ⟨hx, hb, hml, hown, hts⟩ (c_X4_changeWeather l dC ad k r x2) (cwV 1 hts gX4_carryOut_X4_changeWeather rfl rfl rfl (by decide +kernel) ⟨Nat.le_of_ble_eq_true rfl, Nat.le_of_ble_eq_true rfl⟩) (ft_preVd hK hP hD (ci := 6) rfl (ft_get' (by decide) rfl)) rfl rfl hl.1 rfl (lv_room (Nat.le_of_ble_eq_true rfl)) dX4_carryOut_109 ⟨Nat.le_of_ble_eq_true rfl, Nat.le_of_ble_eq_true rfl⟩) hS (fun q _ h => h) (fun q h => h) (fun z u t H1 locs ht hvm hw hB hz1 hk1 hS => ?_)
  obtain ⟨rfl, rfl⟩ : z = (s_X4_changeWeather r x2).1 ∧ u = (s_X4_changeWeather r x2).2 := ⟨congrArg Prod.fst hw, congrArg Prod.snd hw⟩
  rw [ht] at hB
  have hP : va_P dC vwCl (ft_WS ad k ((s_X4_changeWeather r x2).2)) H1 := hB
  have hD : va_D (ft_A 23 ad) (ft_WS ad k ((s_X4_changeWeather r x2).2)) := ft_D_va hD _
  generalize H1 = H at hP hS ⊢
  exact W.iret (v := (s_X4_changeWeather r x2).1) hx hb hr (fun t ht hW => ⟨⟨(s_X4_changeWeather r x2).1, ((s_X4_changeWeather r x2).2), rfl, hsp, ft_heap ht hP⟩, hS.F ht⟩) hS.2.2 dX4_carryOut_112

def s_X4_carryOut_8 (r : Nat → Int32) (x2 : Int32) (x3 : Int32) (x4 : Int32) : Int32 × (Nat → Int32) := if (s_X4_isWait x2) = 0 then (((-2), r)) else (((s_X4_passMinutes r x2).1, (s_X4_passMinutes r x2).2))
set_option maxHeartbeats 4000000 in
set_option maxRecDepth 100000 in
theorem c_X4_carryOut_8 (l : Launch) (dC : va_G) (Z : Nat → Nat → Nat) (ad : Nat → Nat) (k : Nat → ClassId) (r : Nat → Int32) (x2 : Int32) (x3 : Int32) (x4 : Int32) : Met l yX4_carryOut wsX4_carryOut ({ frames := 5, cells := 0, slots := 0, locals := 112 }) (ft_Pf dC k Z (ft_A 23 ad) [.ref (ad 0), .ref (Z 0 8), .int x2, .int x3, .int x4] (ft_WS ad k r)) (va_Qi (fun (z : Int32) (u : Nat → Int32) => (z, u) = s_X4_carryOut_8 r x2 x3 x4) (fun (u : Nat → Int32) (t : State) => va_P dC vwCl (ft_WS ad k u) t.heap) (ft_A 23 ad)) 0 0 (ft_A 23 ad) := by
  refine Met.ofW (cc := cX4_carryOut) (maxL := 5) (ret := (some .int)) (by decide) rfl ?_
  intro p e s m args below meth c s₁ B hml hv
  obtain ⟨hargs, hP, hE, hD0⟩ := hv
  have hK := hE.1
  subst hargs
  have hx := B.exec
  have hb := B.bytes
  have hr := B.returns
  have hts := atoms_spec (ws := wsX4_carryOut) B.pre
  have hown : s.vm.findClass RX4 = some m.cls := findClass_of_methodNamed B.named
  have hlocks := B.notSynchronized
  have hD := ft_D_self hD0
  have hS : va_S (ft_A 23 ad) s.heap s.heap [] := va_S.rf
  have hl := lv_entry ([.ref (ad 0), .ref (Z 0 8), .int x2, .int x3, .int x4]) (n := 5) (Nat.le_of_ble_eq_true rfl)
  rw [lg_entry_eq]
  generalize (lg_sl ([.ref (ad 0), .ref (Z 0 8), .int x2, .int x3, .int x4]) ++ List.replicate (5 - (lg_sl ([.ref (ad 0), .ref (Z 0 8), .int x2, .int x3, .int x4])).length) Slot.unset).toArray = ls at hl ⊢
  have hl : lv_has ls 5 [(0, .ref (ad 0)), (1, .ref (Z 0 8)), (2, .int (x2)), (3, .int (x3)), (4, .int (x4))] := hl
  have hsp := (s_X4_carryOut_8.eq_1 r x2 x3 x4).symm
  refine va_gets (C := RX0) hx hb hE.2.2.sw hS hown (hts (.fieldLink RX4 69 "FoodTruckRota$1" "$SwitchMap$FoodTruckRota$Command" "[I") (by decide +kernel)) (fun _ h9 => h9) dX4_carryOut_0 ?_
  refine lv_aload_n hx hb dX4_carryOut_3 rfl (lv_at hl 1 rfl) ?_
  refine vp_callSi (va_Run.run (va_runU (As := []) (rest := [.ref (Z 3 1)]) ⟨hx, hb, hml, hown, hts⟩ (c_ordinal l dC k Z (ft_A 23 ad) 8 (by decide)) (va_cwU 0 hts gX4_carryOut_Jx29ce0_ordinal_8abf5_u74X1 rfl rfl rfl rfl (by decide +kernel) ⟨Nat.le_of_ble_eq_true rfl, Nat.le_of_ble_eq_true rfl⟩) ⟨ft_Po.blind, va_recvE hE.2.2.en (i := 8) (by decide) hS, fun U hU hW => ⟨rfl, hE.go hS (fun _ h => h) hU hW⟩⟩ rfl rfl hl.1 rfl (lv_room (Nat.le_of_ble_eq_true rfl)) dX4_carryOut_4 ⟨Nat.le_of_ble_eq_true rfl, Nat.le_of_ble_eq_true rfl⟩)) (fun z hz => ?_)
  have hz : z = 8 := hz
  subst hz
  refine va_ti (v := .int (0)) hx hb hE.2.2.swt hS (pk_in 8 9 (by decide)) rfl dX4_carryOut_7 ?_
  refine lv_tableOut (tgt := 113) hx hb dX4_carryOut_8 (Or.inl (by decide)) (by decide) ?_
  refine lv_iload_n hx hb dX4_carryOut_113 rfl (lv_at hl 2 rfl) ?_
  refine vp_callSi (va_Run.run (va_runS (As := [.int (x2)]) (rest := []) ⟨hx, hb, hml, hown, hts⟩ (c_X4_isWait l x2) (va_cwS 1 hts gX4_carryOut_X4_isWait rfl rfl rfl (by decide +kernel) ⟨Nat.le_of_ble_eq_true rfl, Nat.le_of_ble_eq_true rfl⟩) ft_preSn rfl rfl hl.1 rfl (lv_room (Nat.le_of_ble_eq_true rfl)) dX4_carryOut_114 ⟨Nat.le_of_ble_eq_true rfl, Nat.le_of_ble_eq_true rfl⟩)) (fun z hz => ?_)
  subst hz
  refine lv_if_eq (tgt := 128) hx hb dX4_carryOut_117 (by decide) (fun c_117 => ?_) (fun c_117 => ?_)
  · replace hsp := (if_pos c_117).symm.trans hsp
    refine lv_bipush (v := (-2)) hx hb dX4_carryOut_128 (by decide) ?_
    exact W.iret (v := (-2)) hx hb hr (fun t ht hW => ⟨⟨(-2), r, rfl, hsp, ft_heap ht hP⟩, hS.F ht⟩) hS.2.2 dX4_carryOut_130
  · replace hsp := (if_neg c_117).symm.trans hsp
    refine lv_aload_n hx hb dX4_carryOut_120 rfl (lv_at hl 0 rfl) ?_
    refine lv_iload_n hx hb dX4_carryOut_121 rfl (lv_at hl 2 rfl) ?_
    refine va_calli (va_runV (As := [.int (x2)]) (rest := []) ⟨hx, hb, hml, hown, hts⟩ (c_X4_passMinutes l dC ad k r x2) (cwV 1 hts gX4_carryOut_X4_passMinutes rfl rfl rfl (by decide +kernel) ⟨Nat.le_of_ble_eq_true rfl, Nat.le_of_ble_eq_true rfl⟩) (ft_preVd hK hP hD (ci := 6) rfl (ft_get' (by decide) rfl)) rfl rfl hl.1 rfl (lv_room (Nat.le_of_ble_eq_true rfl)) dX4_carryOut_122 ⟨Nat.le_of_ble_eq_true rfl, Nat.le_of_ble_eq_true rfl⟩) hS (fun q _ h => h) (fun q h => h) (fun z u t H1 locs ht hvm hw hB hz1 hk1 hS => ?_)
    obtain ⟨rfl, rfl⟩ : z = (s_X4_passMinutes r x2).1 ∧ u = (s_X4_passMinutes r x2).2 := ⟨congrArg Prod.fst hw, congrArg Prod.snd hw⟩
    rw [ht] at hB
    have hP : va_P dC vwCl (ft_WS ad k ((s_X4_passMinutes r x2).2)) H1 := hB
    have hD : va_D (ft_A 23 ad) (ft_WS ad k ((s_X4_passMinutes r x2).2)) := ft_D_va hD _
    generalize H1 = H at hP hS ⊢
    refine lv_goto (tgt := 130) hx hb dX4_carryOut_125 (by decide) ?_
    exact W.iret (v := (s_X4_passMinutes r x2).1) hx hb hr (fun t ht hW => ⟨⟨(s_X4_passMinutes r x2).1, ((s_X4_passMinutes r x2).2), rfl, hsp, ft_heap ht hP⟩, hS.F ht⟩) hS.2.2 dX4_carryOut_130

def s_X4_carryOut (c : Nat) (r : Nat → Int32) (x2 x3 x4 : Int32) : Int32 × (Nat → Int32) := match c with
  | 0 => s_X4_carryOut_0 r x2 x3 x4
  | 1 => s_X4_carryOut_1 r x2 x3 x4
  | 2 => s_X4_carryOut_2 r x2 x3 x4
  | 3 => s_X4_carryOut_3 r x2 x3 x4
  | 4 => s_X4_carryOut_4 r x2 x3 x4
  | 5 => s_X4_carryOut_5 r x2 x3 x4
  | 6 => s_X4_carryOut_6 r x2 x3 x4
  | 7 => s_X4_carryOut_7 r x2 x3 x4
  | _ => s_X4_carryOut_8 r x2 x3 x4
theorem c_X4_carryOut (l : Launch) (dC : va_G) (Z : Nat → Nat → Nat) (ad : Nat → Nat) (k : Nat → ClassId) (r : Nat → Int32) (c : Nat) (hc : c < 9) (x2 x3 x4 : Int32) : Met l yX4_carryOut wsX4_carryOut ({ frames := 5, cells := 0, slots := 0, locals := 112 }) (ft_Pf dC k Z (ft_A 23 ad) [.ref (ad 0), .ref (Z 0 c), .int x2, .int x3, .int x4] (ft_WS ad k r)) (va_Qi (fun (z : Int32) (u : Nat → Int32) => (z, u) = s_X4_carryOut c r x2 x3 x4) (fun (u : Nat → Int32) (t : State) => va_P dC vwCl (ft_WS ad k u) t.heap) (ft_A 23 ad)) 0 0 (ft_A 23 ad) := by
  match c, hc with
  | 0, _ => exact c_X4_carryOut_0 l dC Z ad k r x2 x3 x4
  | 1, _ => exact c_X4_carryOut_1 l dC Z ad k r x2 x3 x4
  | 2, _ => exact c_X4_carryOut_2 l dC Z ad k r x2 x3 x4
  | 3, _ => exact c_X4_carryOut_3 l dC Z ad k r x2 x3 x4
  | 4, _ => exact c_X4_carryOut_4 l dC Z ad k r x2 x3 x4
  | 5, _ => exact c_X4_carryOut_5 l dC Z ad k r x2 x3 x4
  | 6, _ => exact c_X4_carryOut_6 l dC Z ad k r x2 x3 x4
  | 7, _ => exact c_X4_carryOut_7 l dC Z ad k r x2 x3 x4
  | 8, _ => exact c_X4_carryOut_8 l dC Z ad k r x2 x3 x4
