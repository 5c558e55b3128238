def s_X4_pitchToday (r : Nat → Int32) (x1 : Int32) : Int32 := (s_X4_pitchHeldBy r x1 (s_X4_today r))
set_option maxHeartbeats 4000000 in
set_option maxRecDepth 100000 in
theorem c_X4_pitchToday (l : Launch) (dC : va_G) (ad : Nat → Nat) (k : Nat → ClassId) (r : Nat → Int32) (x1 : Int32) : Met l yX4_pitchToday wsX4_pitchToday ({ frames := 2, cells := 0, slots := 0, locals := 45 }) (ft_Pc dC k [.ref (ad 0), .int x1] (ft_WS ad k r)) (vp_Si (fun z : Int32 => z = s_X4_pitchToday r x1)) 0 0 (fun _ => False) := by
  refine Met.ofW (cc := cX4_pitchToday) (maxL := 2) (ret := (some .int)) (by decide) rfl ?_
  intro p e s m args below meth c s₁ B hml hv
  obtain ⟨hargs, hP, hK⟩ := hv
  subst hargs
  have hx := B.exec
  have hb := B.bytes
  have hr := B.returns
  have hts := atoms_spec (ws := wsX4_pitchToday) B.pre
  have hown : s.vm.findClass RX4 = some m.cls := findClass_of_methodNamed B.named
  have hlocks := B.notSynchronized
  have hl := lv_entry ([.ref (ad 0), .int x1]) (n := 2) (Nat.le_of_ble_eq_true rfl)
  rw [lg_entry_eq]
  generalize (lg_sl ([.ref (ad 0), .int x1]) ++ List.replicate (2 - (lg_sl ([.ref (ad 0), .int x1])).length) Slot.unset).toArray = ls at hl ⊢
  have hl : lv_has ls 2 [(0, .ref (ad 0)), (1, .int (x1))] := hl
  have hsp := (s_X4_pitchToday.eq_1 r x1).symm
  refine lv_aload_n hx hb dX4_pitchToday_0 rfl (lv_at hl 0 rfl) ?_
  refine lv_iload_n hx hb dX4_pitchToday_1 rfl (lv_at hl 1 rfl) ?_
  refine lv_aload_n hx hb dX4_pitchToday_2 rfl (lv_at hl 0 rfl) ?_
  refine vp_callSi (va_Run.run (va_runV (As := []) (rest := [.int (x1), .ref (ad 0)]) ⟨hx, hb, hml, hown, hts⟩ (c_X4_today l dC ad k r) (cwV 0 hts gX4_pitchToday_X4_today rfl rfl rfl (by decide +kernel) ⟨Nat.le_of_ble_eq_true rfl, Nat.le_of_ble_eq_true rfl⟩) (ft_preVc hK hP (ci := 6) rfl (ft_get' (by decide) rfl)) rfl rfl hl.1 rfl (lv_room (Nat.le_of_ble_eq_true rfl)) dX4_pitchToday_3 ⟨Nat.le_of_ble_eq_true rfl, Nat.le_of_ble_eq_true rfl⟩)) (fun z hz => ?_)
  subst hz
  refine vp_callSi (va_Run.run (va_runV (As := [.int (x1), .int ((s_X4_today r))]) (rest := []) ⟨hx, hb, hml, hown, hts⟩ (c_X4_pitchHeldBy l dC ad k r x1 (s_X4_today r)) (cwV 2 hts gX4_pitchToday_X4_pitchHeldBy rfl rfl rfl (by decide +kernel) ⟨Nat.le_of_ble_eq_true rfl, Nat.le_of_ble_eq_true rfl⟩) (ft_preVc hK hP (ci := 6) rfl (ft_get' (by decide) rfl)) rfl rfl hl.1 rfl (lv_room (Nat.le_of_ble_eq_true rfl)) dX4_pitchToday_6 ⟨Nat.le_of_ble_eq_true rfl, Nat.le_of_ble_eq_true rfl⟩)) (fun z hz => ?_)
  subst hz
  exact W.iret (v := (s_X4_pitchHeldBy r x1 (s_X4_today r))) hx hb hr (fun t ht hW => ft_endi (post := fun z : Int32 => z = s_X4_pitchToday r x1) hsp ht) (fun _ h => absurd h List.not_mem_nil) dX4_pitchToday_9

def s_X7_needDish  (x1 : Int32) : Except String Unit := if (s_X7_isDish x1) = 0 then (.error "java/lang/IndexOutOfBoundsException") else (.ok ())
set_option maxHeartbeats 4000000 in
set_option maxRecDepth 100000 in
theorem c_X7_needDish (l : Launch) (hl0 : l.stackTraces = false) (dC : va_G) (Z : Nat → Nat → Nat) (A : Nat → Prop) (k : Nat → ClassId) (x1 : Int32): vx_Met l yX7_needDish wsX7_needDish ({ frames := 6, cells := 1, slots := 6, locals := 90 }) (ft_Po dC k Z A [.int x1]) (ft_Qxv (s_X7_needDish x1)) (ft_Xx (s_X7_needDish x1)) 1 6 (fun _ => False) := by
  refine vx_ofW (cc := cX7_needDish) (maxL := 1) (ret := none) (by decide) rfl ?_
  intro p e s m args below meth c s₁ B hml hnt hv
  obtain ⟨hargs, hE⟩ := hv
  have hK := hE.1
  subst hargs
  have hx := B.exec
  have hb := B.bytes
  have hr := B.returns
  have hts := atoms_spec (ws := wsX7_needDish) B.pre
  have hown : s.vm.findClass RX7 = some m.cls := findClass_of_methodNamed B.named
  have hlocks := B.notSynchronized
  have hS0 : va_S (fun _ => False) s.heap s.heap [] := va_S.rf
  have hl := lv_entry ([.int x1]) (n := 1) (Nat.le_of_ble_eq_true rfl)
  rw [lg_entry_eq]
  generalize (lg_sl ([.int x1]) ++ List.replicate (1 - (lg_sl ([.int x1])).length) Slot.unset).toArray = ls at hl ⊢
  have hl : lv_has ls 1 [(0, .int (x1))] := hl
  have hsp := (s_X7_needDish.eq_1  x1).symm
  refine lv_iload_n hx hb dX7_needDish_0 rfl (lv_at hl 0 rfl) ?_
  refine vp_callSi (va_Run.run (va_runS (As := [.int (x1)]) (rest := []) ⟨hx, hb, hml, hown, hts⟩ (c_X7_isDish l x1) (va_cwS 1 hts gX7_needDish_X7_isDish rfl rfl rfl (by decide +kernel) ⟨Nat.le_of_ble_eq_true rfl, Nat.le_of_ble_eq_true rfl⟩) ft_preSn rfl rfl hl.1 rfl (lv_room (Nat.le_of_ble_eq_true rfl)) dX7_needDish_1 ⟨Nat.le_of_ble_eq_true rfl, Nat.le_of_ble_eq_true rfl⟩)) (fun z hz => ?_)
  subst hz
  refine lv_if_ne (tgt := 18) hx hb dX7_needDish_4 (by decide) (fun c_4 => ?_) (fun c_4 => ?_)
  · replace hsp := (if_neg c_4).symm.trans hsp
    refine vx_ret ?_
    refine W.widen (k := 1) (n := 6) (by decide) (by decide) ?_
    exact W.vret hx hb hr (fun t ht hW => ⟨⟨(), rfl, hsp.symm, trivial⟩, ft_Fx hS0 (by rw [ht]; exact Nat.le_refl _) (fun q _ => by rw [ht])⟩) (fun z hz => (hS0.2.2 z hz).elim) dX7_needDish_18
  · replace hsp := (if_pos c_4).symm.trans hsp
    obtain ⟨sa, hsa⟩ := hE.2.1.2.1 (RX7, 325, "no such dish") (List.mem_of_getElem? (i := 12) rfl)
    exact vx_throwSW (text := "no such dish") (names := ["java/lang/RuntimeException", "java/lang/Exception"]) hx hb hl0 hown (by decide +kernel) (by decide +kernel) (hts (.classLink RX7 230 "java/lang/IndexOutOfBoundsException") (by decide +kernel)) (hts (.initialized "java/lang/IndexOutOfBoundsException") (by decide +kernel)) hsa (vx_hat (fun w h => hts w (List.mem_cons_of_mem _ (List.mem_append_right _ h))) (by decide +kernel) (ft_xw hE "java/lang/IndexOutOfBoundsException" (by decide +kernel))) (by decide +kernel) hE.2.2.us hE.2.2.ss (ft_Sm hS0) (hl.1.trans hml.symm) dX7_needDish_7 dX7_needDish_10 dX7_needDish_11 dX7_needDish_14 dX7_needDish_17 (fun x hx9 => (hnt x hx9).elim) (Nat.le_of_ble_eq_true rfl) (Nat.le_of_ble_eq_true rfl) (Nat.le_of_ble_eq_true rfl) (Nat.le_of_ble_eq_true rfl) hlocks (fun t _ h1 h2 => ⟨(), trivial, hsp.symm, ft_Fx hS0 h1 h2⟩) (fun z hz => (hS0.2.2 z hz).elim) (by decide) (by decide)

def s_X7_needPitch  (x1 : Int32) : Except String Unit := if (s_X7_isPitch x1) = 0 then (.error "java/lang/IndexOutOfBoundsException") else (.ok ())
set_option maxHeartbeats 4000000 in
set_option maxRecDepth 100000 in
theorem c_X7_needPitch (l : Launch) (hl0 : l.stackTraces = false) (dC : va_G) (Z : Nat → Nat → Nat) (A : Nat → Prop) (k : Nat → ClassId) (x1 : Int32): vx_Met l yX7_needPitch wsX7_needPitch ({ frames := 6, cells := 1, slots := 6, locals := 90 }) (ft_Po dC k Z A [.int x1]) (ft_Qxv (s_X7_needPitch x1)) (ft_Xx (s_X7_needPitch x1)) 1 6 (fun _ => False) := by
  refine vx_ofW (cc := cX7_needPitch) (maxL := 1) (ret := none) (by decide) rfl ?_
  intro p e s m args below meth c s₁ B hml hnt hv
  obtain ⟨hargs, hE⟩ := hv
  have hK := hE.1
  subst hargs
  have hx := B.exec
  have hb := B.bytes
  have hr := B.returns
  have hts := atoms_spec (ws := wsX7_needPitch) B.pre
  have hown : s.vm.findClass RX7 = some m.cls := findClass_of_methodNamed B.named
  have hlocks := B.notSynchronized
  have hS0 : va_S (fun _ => False) s.heap s.heap [] := va_S.rf
  have hl := lv_entry ([.int x1]) (n := 1) (Nat.le_of_ble_eq_true rfl)
  rw [lg_entry_eq]
  generalize (lg_sl ([.int x1]) ++ List.replicate (1 - (lg_sl ([.int x1])).length) Slot.unset).toArray = ls at hl ⊢
  have hl : lv_has ls 1 [(0, .int (x1))] := hl
  have hsp := (s_X7_needPitch.eq_1  x1).symm
  refine lv_iload_n hx hb dX7_needPitch_0 rfl (lv_at hl 0 rfl) ?_
  refine vp_callSi (va_Run.run (va_runS (As := [.int (x1)]) (rest := []) ⟨hx, hb, hml, hown, hts⟩ (c_X7_isPitch l x1) (va_cwS 1 hts gX7_needPitch_X7_isPitch rfl rfl rfl (by decide +kernel) ⟨Nat.le_of_ble_eq_true rfl, Nat.le_of_ble_eq_true rfl⟩) ft_preSn rfl rfl hl.1 rfl (lv_room (Nat.le_of_ble_eq_true rfl)) dX7_needPitch_1 ⟨Nat.le_of_ble_eq_true rfl, Nat.le_of_ble_eq_true rfl⟩)) (fun z hz => ?_)
  subst hz
  refine lv_if_ne (tgt := 18) hx hb dX7_needPitch_4 (by decide) (fun c_4 => ?_) (fun c_4 => ?_)
  · replace hsp := (if_neg c_4).symm.trans hsp
    refine vx_ret ?_
    refine W.widen (k := 1) (n := 6) (by decide) (by decide) ?_
    exact W.vret hx hb hr (fun t ht hW => ⟨⟨(), rfl, hsp.symm, trivial⟩, ft_Fx hS0 (by rw [ht]; exact Nat.le_refl _) (fun q _ => by rw [ht])⟩) (fun z hz => (hS0.2.2 z hz).elim) dX7_needPitch_18
  · replace hsp := (if_pos c_4).symm.trans hsp
    obtain ⟨sa, hsa⟩ := hE.2.1.2.1 (RX7, 330, "no such pitch") (List.mem_of_getElem? (i := 13) rfl)
    exact vx_throwSW (text := "no such pitch") (names := ["java/lang/RuntimeException", "java/lang/Exception"]) hx hb hl0 hown (by decide +kernel) (by decide +kernel) (hts (.classLink RX7 230 "java/lang/IndexOutOfBoundsException") (by decide +kernel)) (hts (.initialized "java/lang/IndexOutOfBoundsException") (by decide +kernel)) hsa (vx_hat (fun w h => hts w (List.mem_cons_of_mem _ (List.mem_append_right _ h))) (by decide +kernel) (ft_xw hE "java/lang/IndexOutOfBoundsException" (by decide +kernel))) (by decide +kernel) hE.2.2.us hE.2.2.ss (ft_Sm hS0) (hl.1.trans hml.symm) dX7_needPitch_7 dX7_needPitch_10 dX7_needPitch_11 dX7_needPitch_14 dX7_needPitch_17 (fun x hx9 => (hnt x hx9).elim) (Nat.le_of_ble_eq_true rfl) (Nat.le_of_ble_eq_true rfl) (Nat.le_of_ble_eq_true rfl) (Nat.le_of_ble_eq_true rfl) hlocks (fun t _ h1 h2 => ⟨(), trivial, hsp.symm, ft_Fx hS0 h1 h2⟩) (fun z hz => (hS0.2.2 z hz).elim) (by decide) (by decide)

def s_X7_needWeekday  (x1 : Int32) : Except String Unit := if (s_X7_isWeekday x1) = 0 then (.error "java/lang/IllegalArgumentException") else (.ok ())
set_option maxHeartbeats 4000000 in
set_option maxRecDepth 100000 in
theorem c_X7_needWeekday (l : Launch) (hl0 : l.stackTraces = false) (dC : va_G) (Z : Nat → Nat → Nat) (A : Nat → Prop) (k : Nat → ClassId) (x1 : Int32): vx_Met l yX7_needWeekday wsX7_needWeekday ({ frames := 6, cells := 1, slots := 6, locals := 90 }) (ft_Po dC k Z A [.int x1]) (ft_Qxv (s_X7_needWeekday x1)) (ft_Xx (s_X7_needWeekday x1)) 1 6 (fun _ => False) := by
  refine vx_ofW (cc := cX7_needWeekday) (maxL := 1) (ret := none) (by decide) rfl ?_
  intro p e s m args below meth c s₁ B hml hnt hv
  obtain ⟨hargs, hE⟩ := hv
  have hK := hE.1
  subst hargs
  have hx := B.exec
  have hb := B.bytes
  have hr := B.returns
  have hts := atoms_spec (ws := wsX7_needWeekday) B.pre
  have hown : s.vm.findClass RX7 = some m.cls := findClass_of_methodNamed B.named
  have hlocks := B.notSynchronized
  have hS0 : va_S (fun _ => False) s.heap s.heap [] := va_S.rf
  have hl := lv_entry ([.int x1]) (n := 1) (Nat.le_of_ble_eq_true rfl)
  rw [lg_entry_eq]
  generalize (lg_sl ([.int x1]) ++ List.replicate (1 - (lg_sl ([.int x1])).length) Slot.unset).toArray = ls at hl ⊢
  have hl : lv_has ls 1 [(0, .int (x1))] := hl
  have hsp := (s_X7_needWeekday.eq_1  x1).symm
  refine lv_iload_n hx hb dX7_needWeekday_0 rfl (lv_at hl 0 rfl) ?_
  refine vp_callSi (va_Run.run (va_runS (As := [.int (x1)]) (rest := []) ⟨hx, hb, hml, hown, hts⟩ (c_X7_isWeekday l x1) (va_cwS 1 hts gX7_needWeekday_X7_isWeekday rfl rfl rfl (by decide +kernel) ⟨Nat.le_of_ble_eq_true rfl, Nat.le_of_ble_eq_true rfl⟩) ft_preSn rfl rfl hl.1 rfl (lv_room (Nat.le_of_ble_eq_true rfl)) dX7_needWeekday_1 ⟨Nat.le_of_ble_eq_true rfl, Nat.le_of_ble_eq_true rfl⟩)) (fun z hz => ?_)
  subst hz
  refine lv_if_ne (tgt := 18) hx hb dX7_needWeekday_4 (by decide) (fun c_4 => ?_) (fun c_4 => ?_)
  · replace hsp := (if_neg c_4).symm.trans hsp
    refine vx_ret ?_
    refine W.widen (k := 1) (n := 6) (by decide) (by decide) ?_
    exact W.vret hx hb hr (fun t ht hW => ⟨⟨(), rfl, hsp.symm, trivial⟩, ft_Fx hS0 (by rw [ht]; exact Nat.le_refl _) (fun q _ => by rw [ht])⟩) (fun z hz => (hS0.2.2 z hz).elim) dX7_needWeekday_18
  · replace hsp := (if_pos c_4).symm.trans hsp
    obtain ⟨sa, hsa⟩ := hE.2.1.2.1 (RX7, 335, "weekday is not between 0 and 6") (List.mem_of_getElem? (i := 14) rfl)
    exact vx_throwSW (text := "weekday is not between 0 and 6") (names := ["java/lang/RuntimeException", "java/lang/Exception"]) hx hb hl0 hown (by decide +kernel) (by decide +kernel) (hts (.classLink RX7 156 "java/lang/IllegalArgumentException") (by decide +kernel)) (hts (.initialized "java/lang/IllegalArgumentException") (by decide +kernel)) hsa (vx_hat (fun w h => hts w (List.mem_cons_of_mem _ (List.mem_append_right _ h))) (by decide +kernel) (ft_xw hE "java/lang/IllegalArgumentException" (by decide +kernel))) (by decide +kernel) hE.2.2.us hE.2.2.ss (ft_Sm hS0) (hl.1.trans hml.symm) dX7_needWeekday_7 dX7_needWeekday_10 dX7_needWeekday_11 dX7_needWeekday_14 dX7_needWeekday_17 (fun x hx9 => (hnt x hx9).elim) (Nat.le_of_ble_eq_true rfl) (Nat.le_of_ble_eq_true rfl) (Nat.le_of_ble_eq_true rfl) (Nat.le_of_ble_eq_true rfl) hlocks (fun t _ h1 h2 => ⟨(), trivial, hsp.symm, ft_Fx hS0 h1 h2⟩) (fun z hz => (hS0.2.2 z hz).elim) (by decide) (by decide)

def s_X7_needFound  (x1 : Int32) : Except String Int32 := if x1 = (-1) then (.error "java/util/NoSuchElementException") else (.ok x1)
set_option maxHeartbeats 4000000 in
set_option maxRecDepth 100000 in
theorem c_X7_needFound (l : Launch) (hl0 : l.stackTraces = false) (dC : va_G) (Z : Nat → Nat → Nat) (A : Nat → Prop) (k : Nat → ClassId) (x1 : Int32): vx_Met l yX7_needFound wsX7_needFound ({ frames := 6, cells := 1, slots := 6, locals := 90 }) (ft_Po dC k Z A [.int x1]) (ft_Qx (s_X7_needFound x1)) (ft_Xx (s_X7_needFound x1)) 1 6 (fun _ => False) := by
  refine vx_ofW (cc := cX7_needFound) (maxL := 1) (ret := (some .int)) (by decide) rfl ?_
  intro p e s m args below meth c s₁ B hml hnt hv
  obtain ⟨hargs, hE⟩ := hv
  have hK := hE.1
  subst hargs
  have hx := B.exec
  have hb := B.bytes
  have hr := B.returns
  have hts := atoms_spec (ws := wsX7_needFound) B.pre
  have hown : s.vm.findClass RX7 = some m.cls := findClass_of_methodNamed B.named
  have hlocks := B.notSynchronized
  have hS0 : va_S (fun _ => False) s.heap s.heap [] := va_S.rf
  have hl := lv_entry ([.int x1]) (n := 1) (Nat.le_of_ble_eq_true rfl)
  rw [lg_entry_eq]
  generalize (lg_sl ([.int x1]) ++ List.replicate (1 - (lg_sl ([.int x1])).length) Slot.unset).toArray = ls at hl ⊢
  have hl : lv_has ls 1 [(0, .int (x1))] := hl
  have hsp := (s_X7_needFound.eq_1  x1).symm
  refine lv_iload_n hx hb dX7_needFound_0 rfl (lv_at hl 0 rfl) ?_
  refine lv_iconst (v := (-1)) hx hb dX7_needFound_1 (by decide) ?_
  refine lv_icmp_ne (tgt := 16) hx hb dX7_needFound_2 (by decide) (fun c_2 => ?_) (fun c_2 => ?_)
  · replace hsp := (if_neg c_2).symm.trans hsp
    refine lv_iload_n hx hb dX7_needFound_16 rfl (lv_at hl 0 rfl) ?_
    refine vx_ret ?_
    refine W.widen (k := 1) (n := 6) (by decide) (by decide) ?_
    exact W.iret (v := x1) hx hb hr (fun t ht hW => ⟨⟨x1, (), rfl, hsp.symm, trivial⟩, ft_Fx hS0 (by rw [ht]; exact Nat.le_refl _) (fun q _ => by rw [ht])⟩) (fun z hz => (hS0.2.2 z hz).elim) dX7_needFound_17
  · replace hsp := (if_pos c_2).symm.trans hsp
    obtain ⟨sa, hsa⟩ := hE.2.1.2.1 (RX7, 337, "there is none") (List.mem_of_getElem? (i := 7) rfl)
    exact ft_throwX (ix := 13) (rx := ft_nrx) (by decide) (by decide) (by decide) (by decide) (text := "there is none") (names := ["java/lang/RuntimeException", "java/lang/Exception"]) hx hb hl0 hown (by decide +kernel) (by decide +kernel) (hts (.classLink RX7 284 "java/util/NoSuchElementException") (by decide +kernel)) (hts (.initialized "java/util/NoSuchElementException") (by decide +kernel)) hsa (vx_hat (fun w h => hts w (List.mem_cons_of_mem _ (List.mem_append_right _ h))) (by decide +kernel) (ft_xw hE "java/util/NoSuchElementException" (by decide +kernel))) (by decide +kernel) hE.2.2.us hE.2.2.ss (ft_Sm hS0) (hl.1.trans hml.symm) dX7_needFound_5 dX7_needFound_8 dX7_needFound_9 dX7_needFound_12 dX7_needFound_15 (fun x hx9 => (hnt x hx9).elim) (Nat.le_of_ble_eq_true rfl) (Nat.le_of_ble_eq_true rfl) (Nat.le_of_ble_eq_true rfl) (Nat.le_of_ble_eq_true rfl) hlocks (fun t _ h1 h2 => ⟨(), trivial, hsp.symm, ft_Fx hS0 h1 h2⟩) (fun z hz => (hS0.2.2 z hz).elim) (by decide) (by decide)

def s_X7_needTruck (q : Nat → Nat → Int32) (o : Nat → Int32) (x1 : Int32) : Except String Unit := if (s_X4_isTruck (q 0) x1) = 0 then (.error "java/lang/IndexOutOfBoundsException") else (.ok ())
set_option maxHeartbeats 4000000 in
set_option maxRecDepth 100000 in
theorem c_X7_needTruck (l : Launch) (hl0 : l.stackTraces = false) (dC : va_G) (Z : Nat → Nat → Nat) (A : Nat → Prop) (ad : Nat → Nat) (k : Nat → ClassId) (q : Nat → Nat → Int32) (pm : Nat → Nat) (o : Nat → Int32) (g : ft_G) (x1 : Int32): vx_Met l yX7_needTruck wsX7_needTruck ({ frames := 6, cells := 1, slots := 6, locals := 90 }) (ft_Pe dC k Z A [.ref (ad 253), .int x1] (ft_WR ad k Z q pm o g)) (ft_Qxv (s_X7_needTruck q o x1)) (ft_Xx (s_X7_needTruck q o x1)) 1 6 (fun _ => False) := by
  refine vx_ofW (cc := cX7_needTruck) (maxL := 2) (ret := none) (by decide) rfl ?_
  intro p e s m args below meth c s₁ B hml hnt hv
  obtain ⟨hargs, hP, hE⟩ := hv
  have hK := hE.1
  subst hargs
  have hx := B.exec
  have hb := B.bytes
  have hr := B.returns
  have hts := atoms_spec (ws := wsX7_needTruck) B.pre
  have hown : s.vm.findClass RX7 = some m.cls := findClass_of_methodNamed B.named
  have hlocks := B.notSynchronized
  have hS0 : va_S (fun _ => False) s.heap s.heap [] := va_S.rf
  have hl := lv_entry ([.ref (ad 253), .int x1]) (n := 2) (Nat.le_of_ble_eq_true rfl)
  rw [lg_entry_eq]
  generalize (lg_sl ([.ref (ad 253), .int x1]) ++ List.replicate (2 - (lg_sl ([.ref (ad 253), .int x1])).length) Slot.unset).toArray = ls at hl ⊢
  have hl : lv_has ls 2 [(0, .ref (ad 253)), (1, .int (x1))] := hl
  have hsp := (s_X7_needTruck.eq_1 q o x1).symm
  refine lv_aload_n hx hb dX7_needTruck_0 rfl (lv_at hl 0 rfl) ?_
  refine va_get (D := dC) (ci := 9) (v := .ref (ft_sq ad 0 0)) (C := RX7) (T := TX7) (N := 9) hx hb hts (by decide +kernel) hown hK.1 hP 253 (ft_get' (by decide) rfl) rfl 0 (by decide) (hts (.fieldLink RX7 12 "FoodTruckRota" "square" "LFoodTruckRota$Square;") (by decide +kernel)) (fun _ h9 => h9) rfl dX7_needTruck_1 ?_
  refine lv_iload_n hx hb dX7_needTruck_4 rfl (lv_at hl 1 rfl) ?_
  refine vp_callSi (va_Run.run (va_runV (As := [.int (x1)]) (rest := []) ⟨hx, hb, hml, hown, hts⟩ (c_X4_isTruck l dC (ft_sq ad 0) k (q 0) x1) (cwV 1 hts gX7_needTruck_X4_isTruck rfl rfl rfl (by decide +kernel) ⟨Nat.le_of_ble_eq_true rfl, Nat.le_of_ble_eq_true rfl⟩) (ft_preVc hK (ft_R_S hP (s := 0) (by decide)) (ci := 6) rfl (ft_get' (by decide) rfl)) rfl rfl hl.1 rfl (lv_room (Nat.le_of_ble_eq_true rfl)) dX7_needTruck_5 ⟨Nat.le_of_ble_eq_true rfl, Nat.le_of_ble_eq_true rfl⟩)) (fun z hz => ?_)
  subst hz
  refine lv_if_ne (tgt := 22) hx hb dX7_needTruck_8 (by decide) (fun c_8 => ?_) (fun c_8 => ?_)
  · replace hsp := (if_neg c_8).symm.trans hsp
    refine vx_ret ?_
    refine W.widen (k := 1) (n := 6) (by decide) (by decide) ?_
    exact W.vret hx hb hr (fun t ht hW => ⟨⟨(), rfl, hsp.symm, trivial⟩, ft_Fx hS0 (by rw [ht]; exact Nat.le_refl _) (fun q _ => by rw [ht])⟩) (fun z hz => (hS0.2.2 z hz).elim) dX7_needTruck_22
  · replace hsp := (if_pos c_8).symm.trans hsp
    obtain ⟨sa, hsa⟩ := hE.2.1.2.1 (RX7, 320, "no such truck") (List.mem_of_getElem? (i := 15) rfl)
    exact vx_throwSW (text := "no such truck") (names := ["java/lang/RuntimeException", "java/lang/Exception"]) hx hb hl0 hown (by decide +kernel) (by decide +kernel) (hts (.classLink RX7 230 "java/lang/IndexOutOfBoundsException") (by decide +kernel)) (hts (.initialized "java/lang/IndexOutOfBoundsException") (by decide +kernel)) hsa (vx_hat (fun w h => hts w (List.mem_cons_of_mem _ (List.mem_append_right _ h))) (by decide +kernel) (ft_xw hE "java/lang/IndexOutOfBoundsException" (by decide +kernel))) (by decide +kernel) hE.2.2.us hE.2.2.ss (ft_Sm hS0) (hl.1.trans hml.symm) dX7_needTruck_11 dX7_needTruck_14 dX7_needTruck_15 dX7_needTruck_18 dX7_needTruck_21 (fun x hx9 => (hnt x hx9).elim) (Nat.le_of_ble_eq_true rfl) (Nat.le_of_ble_eq_true rfl) (Nat.le_of_ble_eq_true rfl) (Nat.le_of_ble_eq_true rfl) hlocks (fun t _ h1 h2 => ⟨(), trivial, hsp.symm, ft_Fx hS0 h1 h2⟩) (fun z hz => (hS0.2.2 z hz).elim) (by decide) (by decide)

theorem need_in {q : Nat → Nat → Int32} {o : Nat → Int32} {x : Int32} (h : s_X7_needTruck q o x = .ok ()) : vp_in x 6 := by
  unfold s_X7_needTruck at h
  split at h
  · cases h
  · exact isTruck_in (by assumption)
theorem dish_in {x : Int32} (h : s_X7_needDish x = .ok ()) : vp_in x 4 := by
  unfold s_X7_needDish at h
  split at h
  · cases h
  · exact isDish_in (by assumption)

def s_X7_truckCount (q : Nat → Nat → Int32) (o : Nat → Int32)  : Int32 := q 0 0
set_option maxHeartbeats 4000000 in
set_option maxRecDepth 100000 in
theorem c_X7_truckCount (l : Launch) (dC : va_G) (Z : Nat → Nat → Nat) (ad : Nat → Nat) (k : Nat → ClassId) (q : Nat → Nat → Int32) (pm : Nat → Nat) (o : Nat → Int32) (g : ft_G) : Met l yX7_truckCount wsX7_truckCount ({ frames := 0, cells := 0, slots := 0, locals := 0 }) (ft_Pc dC k [.ref (ad 253)] (ft_WR ad k Z q pm o g)) (vp_Si (fun z : Int32 => z = s_X7_truckCount q o)) 0 0 (fun _ => False) := by
  refine Met.ofW (cc := cX7_truckCount) (maxL := 1) (ret := (some .int)) (by decide) rfl ?_
  intro p e s m args below meth c s₁ B hml hv
  obtain ⟨hargs, hP, hK⟩ := hv
  subst hargs
  have hx := B.exec
  have hb := B.bytes
  have hr := B.returns
  have hts := atoms_spec (ws := wsX7_truckCount) B.pre
  have hown : s.vm.findClass RX7 = some m.cls := findClass_of_methodNamed B.named
  have hlocks := B.notSynchronized
  have hl := lv_entry ([.ref (ad 253)]) (n := 1) (Nat.le_of_ble_eq_true rfl)
  rw [lg_entry_eq]
  generalize (lg_sl ([.ref (ad 253)]) ++ List.replicate (1 - (lg_sl ([.ref (ad 253)])).length) Slot.unset).toArray = ls at hl ⊢
  have hl : lv_has ls 1 [(0, .ref (ad 253))] := hl
  have hsp := (s_X7_truckCount.eq_1 q o ).symm
  refine lv_aload_n hx hb dX7_truckCount_0 rfl (lv_at hl 0 rfl) ?_
  refine va_get (D := dC) (ci := 9) (v := .ref (ft_sq ad 0 0)) (C := RX7) (T := TX7) (N := 9) hx hb hts (by decide +kernel) hown hK.1 hP 253 (ft_get' (by decide) rfl) rfl 0 (by decide) (hts (.fieldLink RX7 12 "FoodTruckRota" "square" "LFoodTruckRota$Square;") (by decide +kernel)) (fun _ h9 => h9) rfl dX7_truckCount_1 ?_
  refine va_getN (D := dC) (ci := 6) (v := .int (q 0 0)) (C := RX4) (T := TX4) (N := 12) hx hb hts (by decide +kernel) hown hK.1 (ft_R_S hP (s := 0) (by decide)) 0 (ft_get' (by decide) rfl) rfl 4 (by decide) (ft_nl hK.2 11 rfl) (fun _ h9 => h9) rfl dX7_truckCount_4 ?_
  exact W.iret (v := q 0 0) hx hb hr (fun t ht hW => ft_endi (post := fun z : Int32 => z = s_X7_truckCount q o) hsp ht) (fun _ h => absurd h List.not_mem_nil) dX7_truckCount_7

def s_X7_day (q : Nat → Nat → Int32) (o : Nat → Int32)  : Int32 := q 0 1
set_option maxHeartbeats 4000000 in
set_option maxRecDepth 100000 in
theorem c_X7_day (l : Launch) (dC : va_G) (Z : Nat → Nat → Nat) (ad : Nat → Nat) (k : Nat → ClassId) (q : Nat → Nat → Int32) (pm : Nat → Nat) (o : Nat → Int32) (g : ft_G) : Met l yX7_day wsX7_day ({ frames := 0, cells := 0, slots := 0, locals := 0 }) (ft_Pc dC k [.ref (ad 253)] (ft_WR ad k Z q pm o g)) (vp_Si (fun z : Int32 => z = s_X7_day q o)) 0 0 (fun _ => False) := by
  refine Met.ofW (cc := cX7_day) (maxL := 1) (ret := (some .int)) (by decide) rfl ?_
  intro p e s m args below meth c s₁ B hml hv
  obtain ⟨hargs, hP, hK⟩ := hv
  subst hargs
  have hx := B.exec
  have hb := B.bytes
  have hr := B.returns
  have hts := atoms_spec (ws := wsX7_day) B.pre
  have hown : s.vm.findClass RX7 = some m.cls := findClass_of_methodNamed B.named
  have hlocks := B.notSynchronized
  have hl := lv_entry ([.ref (ad 253)]) (n := 1) (Nat.le_of_ble_eq_true rfl)
  rw [lg_entry_eq]
  generalize (lg_sl ([.ref (ad 253)]) ++ List.replicate (1 - (lg_sl ([.ref (ad 253)])).length) Slot.unset).toArray = ls at hl ⊢
  have hl : lv_has ls 1 [(0, .ref (ad 253))] := hl
  have hsp := (s_X7_day.eq_1 q o ).symm
  refine lv_aload_n hx hb dX7_day_0 rfl (lv_at hl 0 rfl) ?_
  refine va_get (D := dC) (ci := 9) (v := .ref (ft_sq ad 0 0)) (C := RX7) (T := TX7) (N := 9) hx hb hts (by decide +kernel) hown hK.1 hP 253 (ft_get' (by decide) rfl) rfl 0 (by decide) (hts (.fieldLink RX7 12 "FoodTruckRota" "square" "LFoodTruckRota$Square;") (by decide +kernel)) (fun _ h9 => h9) rfl dX7_day_1 ?_
  refine va_getN (D := dC) (ci := 6) (v := .int (q 0 1)) (C := RX4) (T := TX4) (N := 12) hx hb hts (by decide +kernel) hown hK.1 (ft_R_S hP (s := 0) (by decide)) 0 (ft_get' (by decide) rfl) rfl 5 (by decide) (ft_nl hK.2 12 rfl) (fun _ h9 => h9) rfl dX7_day_4 ?_
  exact W.iret (v := q 0 1) hx hb hr (fun t ht hW => ft_endi (post := fun z : Int32 => z = s_X7_day q o) hsp ht) (fun _ h => absurd h List.not_mem_nil) dX7_day_7

def s_X7_minute (q : Nat → Nat → Int32) (o : Nat → Int32)  : Int32 := q 0 2
set_option maxHeartbeats 4000000 in
set_option maxRecDepth 100000 in
theorem c_X7_minute (l : Launch) (dC : va_G) (Z : Nat → Nat → Nat) (ad : Nat → Nat) (k : Nat → ClassId) (q : Nat → Nat → Int32) (pm : Nat → Nat) (o : Nat → Int32) (g : ft_G) : Met l yX7_minute wsX7_minute ({ frames := 0, cells := 0, slots := 0, locals := 0 }) (ft_Pc dC k [.ref (ad 253)] (ft_WR ad k Z q pm o g)) (vp_Si (fun z : Int32 => z = s_X7_minute q o)) 0 0 (fun _ => False) := by
  refine Met.ofW (cc := cX7_minute) (maxL := 1) (ret := (some .int)) (by decide) rfl ?_
  intro p e s m args below meth c s₁ B hml hv
  obtain ⟨hargs, hP, hK⟩ := hv
  subst hargs
  have hx := B.exec
  have hb := B.bytes
  have hr := B.returns
  have hts := atoms_spec (ws := wsX7_minute) B.pre
  have hown : s.vm.findClass RX7 = some m.cls := findClass_of_methodNamed B.named
  have hlocks := B.notSynchronized
  have hl := lv_entry ([.ref (ad 253)]) (n := 1) (Nat.le_of_ble_eq_true rfl)
  rw [lg_entry_eq]
  generalize (lg_sl ([.ref (ad 253)]) ++ List.replicate (1 - (lg_sl ([.ref (ad 253)])).length) Slot.unset).toArray = ls at hl ⊢
  have hl : lv_has ls 1 [(0, .ref (ad 253))] := hl
  have hsp := (s_X7_minute.eq_1 q o ).symm
  refine lv_aload_n hx hb dX7_minute_0 rfl (lv_at hl 0 rfl) ?_
  refine va_get (D := dC) (ci := 9) (v := .ref (ft_sq ad 0 0)) (C := RX7) (T := TX7) (N := 9) hx hb hts (by decide +kernel) hown hK.1 hP 253 (ft_get' (by decide) rfl) rfl 0 (by decide) (hts (.fieldLink RX7 12 "FoodTruckRota" "square" "LFoodTruckRota$Square;") (by decide +kernel)) (fun _ h9 => h9) rfl dX7_minute_1 ?_
  refine va_getN (D := dC) (ci := 6) (v := .int (q 0 2)) (C := RX4) (T := TX4) (N := 12) hx hb hts (by decide +kernel) hown hK.1 (ft_R_S hP (s := 0) (by decide)) 0 (ft_get' (by decide) rfl) rfl 6 (by decide) (ft_nl hK.2 13 rfl) (fun _ h9 => h9) rfl dX7_minute_4 ?_
  exact W.iret (v := q 0 2) hx hb hr (fun t ht hW => ft_endi (post := fun z : Int32 => z = s_X7_minute q o) hsp ht) (fun _ h => absurd h List.not_mem_nil) dX7_minute_7

def s_X7_weather (q : Nat → Nat → Int32) (o : Nat → Int32)  : Int32 := q 0 3
set_option maxHeartbeats 4000000 in
set_option maxRecDepth 100000 in
theorem c_X7_weather (l : Launch) (dC : va_G) (Z : Nat → Nat → Nat) (ad : Nat → Nat) (k : Nat → ClassId) (q : Nat → Nat → Int32) (pm : Nat → Nat) (o : Nat → Int32) (g : ft_G) : Met l yX7_weather wsX7_weather ({ frames := 0, cells := 0, slots := 0, locals := 0 }) (ft_Pc dC k [.ref (ad 253)] (ft_WR ad k Z q pm o g)) (vp_Si (fun z : Int32 => z = s_X7_weather q o)) 0 0 (fun _ => False) := by
  refine Met.ofW (cc := cX7_weather) (maxL := 1) (ret := (some .int)) (by decide) rfl ?_
  intro p e s m args below meth c s₁ B hml hv
  obtain ⟨hargs, hP, hK⟩ := hv
  subst hargs
  have hx := B.exec
  have hb := B.bytes
  have hr := B.returns
  have hts := atoms_spec (ws := wsX7_weather) B.pre
  have hown : s.vm.findClass RX7 = some m.cls := findClass_of_methodNamed B.named
  have hlocks := B.notSynchronized
  have hl := lv_entry ([.ref (ad 253)]) (n := 1) (Nat.le_of_ble_eq_true rfl)
  rw [lg_entry_eq]
  generalize (lg_sl ([.ref (ad 253)]) ++ List.replicate (1 - (lg_sl ([.ref (ad 253)])).length) Slot.unset).toArray = ls at hl ⊢
  have hl : lv_has ls 1 [(0, .ref (ad 253))] := hl
  have hsp := (s_X7_weather.eq_1 q o ).symm
  refine lv_aload_n hx hb dX7_weather_0 rfl (lv_at hl 0 rfl) ?_
  refine va_get (D := dC) (ci := 9) (v := .ref (ft_sq ad 0 0)) (C := RX7) (T := TX7) (N := 9) hx hb hts (by decide +kernel) hown hK.1 hP 253 (ft_get' (by decide) rfl) rfl 0 (by decide) (hts (.fieldLink RX7 12 "FoodTruckRota" "square" "LFoodTruckRota$Square;") (by decide +kernel)) (fun _ h9 => h9) rfl dX7_weather_1 ?_
  refine va_getN (D := dC) (ci := 6) (v := .int (q 0 3)) (C := RX4) (T := TX4) (N := 12) hx hb hts (by decide +kernel) hown hK.1 (ft_R_S hP (s := 0) (by decide)) 0 (ft_get' (by decide) rfl) rfl 7 (by decide) (ft_nl hK.2 14 rfl) (fun _ h9 => h9) rfl dX7_weather_4 ?_
  exact W.iret (v := q 0 3) hx hb hr (fun t ht hW => ft_endi (post := fun z : Int32 => z = s_X7_weather q o) hsp ht) (fun _ h => absurd h List.not_mem_nil) dX7_weather_7

def s_X7_arrivedTotal (q : Nat → Nat → Int32) (o : Nat → Int32)  : Int32 := q 0 4
set_option maxHeartbeats 4000000 in
set_option maxRecDepth 100000 in
theorem c_X7_arrivedTotal (l : Launch) (dC : va_G) (Z : Nat → Nat → Nat) (ad : Nat → Nat) (k : Nat → ClassId) (q : Nat → Nat → Int32) (pm : Nat → Nat) (o : Nat → Int32) (g : ft_G) : Met l yX7_arrivedTotal wsX7_arrivedTotal ({ frames := 0, cells := 0, slots := 0, locals := 0 }) (ft_Pc dC k [.ref (ad 253)] (ft_WR ad k Z q pm o g)) (vp_Si (fun z : Int32 => z = s_X7_arrivedTotal q o)) 0 0 (fun _ => False) := by
  refine Met.ofW (cc := cX7_arrivedTotal) (maxL := 1) (ret := (some .int)) (by decide) rfl ?_
  intro p e s m args below meth c s₁ B hml hv
  obtain ⟨hargs, hP, hK⟩ := hv
  subst hargs
  have hx := B.exec
  have hb := B.bytes
  have hr := B.returns
  have hts := atoms_spec (ws := wsX7_arrivedTotal) B.pre
  have hown : s.vm.findClass RX7 = some m.cls := findClass_of_methodNamed B.named
  have hlocks := B.notSynchronized
  have hl := lv_entry ([.ref (ad 253)]) (n := 1) (Nat.le_of_ble_eq_true rfl)
  rw [lg_entry_eq]
  generalize (lg_sl ([.ref (ad 253)]) ++ List.replicate (1 - (lg_sl ([.ref (ad 253)])).length) Slot.unset).toArray = ls at hl ⊢
  have hl : lv_has ls 1 [(0, .ref (ad 253))] := hl
  have hsp := (s_X7_arrivedTotal.eq_1 q o ).symm
  refine lv_aload_n hx hb dX7_arrivedTotal_0 rfl (lv_at hl 0 rfl) ?_
  refine va_get (D := dC) (ci := 9) (v := .ref (ft_sq ad 0 0)) (C := RX7) (T := TX7) (N := 9) hx hb hts (by decide +kernel) hown hK.1 hP 253 (ft_get' (by decide) rfl) rfl 0 (by decide) (hts (.fieldLink RX7 12 "FoodTruckRota" "square" "LFoodTruckRota$Square;") (by decide +kernel)) (fun _ h9 => h9) rfl dX7_arrivedTotal_1 ?_
  refine va_getN (D := dC) (ci := 6) (v := .int (q 0 4)) (C := RX4) (T := TX4) (N := 12) hx hb hts (by decide +kernel) hown hK.1 (ft_R_S hP (s := 0) (by decide)) 0 (ft_get' (by decide) rfl) rfl 8 (by decide) (ft_nl hK.2 15 rfl) (fun _ h9 => h9) rfl dX7_arrivedTotal_4 ?_
  exact W.iret (v := q 0 4) hx hb hr (fun t ht hW => ft_endi (post := fun z : Int32 => z = s_X7_arrivedTotal q o) hsp ht) (fun _ h => absurd h List.not_mem_nil) dX7_arrivedTotal_7

def s_X7_servedTotal (q : Nat → Nat → Int32) (o : Nat → Int32)  : Int32 := q 0 5
set_option maxHeartbeats 4000000 in
set_option maxRecDepth 100000 in
theorem c_X7_servedTotal (l : Launch) (dC : va_G) (Z : Nat → Nat → Nat) (ad : Nat → Nat) (k : Nat → ClassId) (q : Nat → Nat → Int32) (pm : Nat → Nat) (o : Nat → Int32) (g : ft_G) : Met l yX7_servedTotal wsX7_servedTotal ({ frames := 0, cells := 0, slots := 0, locals := 0 }) (ft_Pc dC k [.ref (ad 253)] (ft_WR ad k Z q pm o g)) (vp_Si (fun z : Int32 => z = s_X7_servedTotal q o)) 0 0 (fun _ => False) := by
  refine Met.ofW (cc := cX7_servedTotal) (maxL := 1) (ret := (some .int)) (by decide) rfl ?_
  intro p e s m args below meth c s₁ B hml hv
  obtain ⟨hargs, hP, hK⟩ := hv
  subst hargs
  have hx := B.exec
  have hb := B.bytes
  have hr := B.returns
  have hts := atoms_spec (ws := wsX7_servedTotal) B.pre
  have hown : s.vm.findClass RX7 = some m.cls := findClass_of_methodNamed B.named
  have hlocks := B.notSynchronized
  have hl := lv_entry ([.ref (ad 253)]) (n := 1) (Nat.le_of_ble_eq_true rfl)
  rw [lg_entry_eq]
  generalize (lg_sl ([.ref (ad 253)]) ++ List.replicate (1 - (lg_sl ([.ref (ad 253)])).length) Slot.unset).toArray = ls at hl ⊢
  have hl : lv_has ls 1 [(0, .ref (ad 253))] := hl
  have hsp := (s_X7_servedTotal.eq_1 q o ).symm
  refine lv_aload_n hx hb dX7_servedTotal_0 rfl (lv_at hl 0 rfl) ?_
  refine va_get (D := dC) (ci := 9) (v := .ref (ft_sq ad 0 0)) (C := RX7) (T := TX7) (N := 9) hx hb hts (by decide +kernel) hown hK.1 hP 253 (ft_get' (by decide) rfl) rfl 0 (by decide) (hts (.fieldLink RX7 12 "FoodTruckRota" "square" "LFoodTruckRota$Square;") (by decide +kernel)) (fun _ h9 => h9) rfl dX7_servedTotal_1 ?_
  refine va_getN (D := dC) (ci := 6) (v := .int (q 0 5)) (C := RX4) (T := TX4) (N := 12) hx hb hts (by decide +kernel) hown hK.1 (ft_R_S hP (s := 0) (by decide)) 0 (ft_get' (by decide) rfl) rfl 9 (by decide) (ft_nl hK.2 16 rfl) (fun _ h9 => h9) rfl dX7_servedTotal_4 ?_
  exact W.iret (v := q 0 5) hx hb hr (fun t ht hW => ft_endi (post := fun z : Int32 => z = s_X7_servedTotal q o) hsp ht) (fun _ h => absurd h List.not_mem_nil) dX7_servedTotal_7

def s_X7_disappointedTotal (q : Nat → Nat → Int32) (o : Nat → Int32)  : Int32 := q 0 6
set_option maxHeartbeats 4000000 in
set_option maxRecDepth 100000 in
theorem c_X7_disappointedTotal (l : Launch) (dC : va_G) (Z : Nat → Nat → Nat) (ad : Nat → Nat) (k : Nat → ClassId) (q : Nat → Nat → Int32) (pm : Nat → Nat) (o : Nat → Int32) (g : ft_G) : Met l yX7_disappointedTotal wsX7_disappointedTotal ({ frames := 0, cells := 0, slots := 0, locals := 0 }) (ft_Pc dC k [.ref (ad 253)] (ft_WR ad k Z q pm o g)) (vp_Si (fun z : Int32 => z = s_X7_disappointedTotal q o)) 0 0 (fun _ => False) := by
  refine Met.ofW (cc := cX7_disappointedTotal) (maxL := 1) (ret := (some .int)) (by decide) rfl ?_
  intro p e s m args below meth c s₁ B hml hv
  obtain ⟨hargs, hP, hK⟩ := hv
  subst hargs
  have hx := B.exec
  have hb := B.bytes
  have hr := B.returns
  have hts := atoms_spec (ws := wsX7_disappointedTotal) B.pre
  have hown : s.vm.findClass RX7 = some m.cls := findClass_of_methodNamed B.named
  have hlocks := B.notSynchronized
  have hl := lv_entry ([.ref (ad 253)]) (n := 1) (Nat.le_of_ble_eq_true rfl)
  rw [lg_entry_eq]
  generalize (lg_sl ([.ref (ad 253)]) ++ List.replicate (1 - (lg_sl ([.ref (ad 253)])).length) Slot.unset).toArray = ls at hl ⊢
  have hl : lv_has ls 1 [(0, .ref (ad 253))] := hl
  have hsp := (s_X7_disappointedTotal.eq_1 q o ).symm
  refine lv_aload_n hx hb dX7_disappointedTotal_0 rfl (lv_at hl 0 rfl) ?_
  refine va_get (D := dC) (ci := 9) (v := .ref (ft_sq ad 0 0)) (C := RX7) (T := TX7) (N := 9) hx hb hts (by decide +kernel) hown hK.1 hP 253 (ft_get' (by decide) rfl) rfl 0 (by decide) (hts (.fieldLink RX7 12 "FoodTruckRota" "square" "LFoodTruckRota$Square;") (by decide +kernel)) (fun _ h9 => h9) rfl dX7_disappointedTotal_1 ?_
  refine va_getN (D := dC) (ci := 6) (v := .int (q 0 6)) (C := RX4) (T := TX4) (N := 12) hx hb hts (by decide +kernel) hown hK.1 (ft_R_S hP (s := 0) (by decide)) 0 (ft_get' (by decide) rfl) rfl 10 (by decide) (ft_nl hK.2 17 rfl) (fun _ h9 => h9) rfl dX7_disappointedTotal_4 ?_
  exact W.iret (v := q 0 6) hx hb hr (fun t ht hW => ft_endi (post := fun z : Int32 => z = s_X7_disappointedTotal q o) hsp ht) (fun _ h => absurd h List.not_mem_nil) dX7_disappointedTotal_7

def s_X7_lostTotal (q : Nat → Nat → Int32) (o : Nat → Int32)  : Int32 := q 0 7
set_option maxHeartbeats 4000000 in
set_option maxRecDepth 100000 in
theorem c_X7_lostTotal (l : Launch) (dC : va_G) (Z : Nat → Nat → Nat) (ad : Nat → Nat) (k : Nat → ClassId) (q : Nat → Nat → Int32) (pm : Nat → Nat) (o : Nat → Int32) (g : ft_G) : Met l yX7_lostTotal wsX7_lostTotal ({ frames := 0, cells := 0, slots := 0, locals := 0 }) (ft_Pc dC k [.ref (ad 253)] (ft_WR ad k Z q pm o g)) (vp_Si (fun z : Int32 => z = s_X7_lostTotal q o)) 0 0 (fun _ => False) := by
  refine Met.ofW (cc := cX7_lostTotal) (maxL := 1) (ret := (some .int)) (by decide) rfl ?_
  intro p e s m args below meth c s₁ B hml hv
  obtain ⟨hargs, hP, hK⟩ := hv
  subst hargs
  have hx := B.exec
  have hb := B.bytes
  have hr := B.returns
  have hts := atoms_spec (ws := wsX7_lostTotal) B.pre
  have hown : s.vm.findClass RX7 = some m.cls := findClass_of_methodNamed B.named
  have hlocks := B.notSynchronized
  have hl := lv_entry ([.ref (ad 253)]) (n := 1) (Nat.le_of_ble_eq_true rfl)
  rw [lg_entry_eq]
  generalize (lg_sl ([.ref (ad 253)]) ++ List.replicate (1 - (lg_sl ([.ref (ad 253)])).length) Slot.unset).toArray = ls at hl ⊢
  have hl : lv_has ls 1 [(0, .ref (ad 253))] := hl
  have hsp := (s_X7_lostTotal.eq_1 q o ).symm
  refine lv_aload_n hx hb dX7_lostTotal_0 rfl (lv_at hl 0 rfl) ?_
  refine va_get (D := dC) (ci := 9) (v := .ref (ft_sq ad 0 0)) (C := RX7) (T := TX7) (N := 9) hx hb hts (by decide +kernel) hown hK.1 hP 253 (ft_get' (by decide) rfl) rfl 0 (by decide) (hts (.fieldLink RX7 12 "FoodTruckRota" "square" "LFoodTruckRota$Square;") (by decide +kernel)) (fun _ h9 => h9) rfl dX7_lostTotal_1 ?_
  refine va_getN (D := dC) (ci := 6) (v := .int (q 0 7)) (C := RX4) (T := TX4) (N := 12) hx hb hts (by decide +kernel) hown hK.1 (ft_R_S hP (s := 0) (by decide)) 0 (ft_get' (by decide) rfl) rfl 11 (by decide) (ft_nl hK.2 18 rfl) (fun _ h9 => h9) rfl dX7_lostTotal_4 ?_
  exact W.iret (v := q 0 7) hx hb hr (fun t ht hW => ft_endi (post := fun z : Int32 => z = s_X7_lostTotal q o) hsp ht) (fun _ h => absurd h List.not_mem_nil) dX7_lostTotal_7

def s_X7_assignments (q : Nat → Nat → Int32) (o : Nat → Int32)  : Int32 := (s_X4_countByPitches (q 0))
set_option maxHeartbeats 4000000 in
set_option maxRecDepth 100000 in
theorem c_X7_assignments (l : Launch) (dC : va_G) (Z : Nat → Nat → Nat) (ad : Nat → Nat) (k : Nat → ClassId) (q : Nat → Nat → Int32) (pm : Nat → Nat) (o : Nat → Int32) (g : ft_G) : Met l yX7_assignments wsX7_assignments ({ frames := 2, cells := 0, slots := 0, locals := 45 }) (ft_Pc dC k [.ref (ad 253)] (ft_WR ad k Z q pm o g)) (vp_Si (fun z : Int32 => z = s_X7_assignments q o)) 0 0 (fun _ => False) := by
  refine Met.ofW (cc := cX7_assignments) (maxL := 1) (ret := (some .int)) (by decide) rfl ?_
  intro p e s m args below meth c s₁ B hml hv
  obtain ⟨hargs, hP, hK⟩ := hv
  subst hargs
  have hx := B.exec
  have hb := B.bytes
  have hr := B.returns
  have hts := atoms_spec (ws := wsX7_assignments) B.pre
  have hown : s.vm.findClass RX7 = some m.cls := findClass_of_methodNamed B.named
  have hlocks := B.notSynchronized
  have hl := lv_entry ([.ref (ad 253)]) (n := 1) (Nat.le_of_ble_eq_true rfl)
  rw [lg_entry_eq]
  generalize (lg_sl ([.ref (ad 253)]) ++ List.replicate (1 - (lg_sl ([.ref (ad 253)])).length) Slot.unset).toArray = ls at hl ⊢
  have hl : lv_has ls 1 [(0, .ref (ad 253))] := hl
  have hsp := (s_X7_assignments.eq_1 q o ).symm
  refine lv_aload_n hx hb dX7_assignments_0 rfl (lv_at hl 0 rfl) ?_
  refine va_get (D := dC) (ci := 9) (v := .ref (ft_sq ad 0 0)) (C := RX7) (T := TX7) (N := 9) hx hb hts (by decide +kernel) hown hK.1 hP 253 (ft_get' (by decide) rfl) rfl 0 (by decide) (hts (.fieldLink RX7 12 "FoodTruckRota" "square" "LFoodTruckRota$Square;") (by decide +kernel)) (fun _ h9 => h9) rfl dX7_assignments_1 ?_
  refine vp_callSi (va_Run.run (va_runV (As := []) (rest := []) ⟨hx, hb, hml, hown, hts⟩ (c_X4_countByPitches l dC (ft_sq ad 0) k (q 0)) (cwV 0 hts gX7_assignments_X4_countByPitches rfl rfl rfl (by decide +kernel) ⟨Nat.le_of_ble_eq_true rfl, Nat.le_of_ble_eq_true rfl⟩) (ft_preVc hK (ft_R_S hP (s := 0) (by decide)) (ci := 6) rfl (ft_get' (by decide) rfl)) rfl rfl hl.1 rfl (lv_room (Nat.le_of_ble_eq_true rfl)) dX7_assignments_4 ⟨Nat.le_of_ble_eq_true rfl, Nat.le_of_ble_eq_true rfl⟩)) (fun z hz => ?_)
  subst hz
  exact W.iret (v := (s_X4_countByPitches (q 0))) hx hb hr (fun t ht hW => ft_endi (post := fun z : Int32 => z = s_X7_assignments q o) hsp ht) (fun _ h => absurd h List.not_mem_nil) dX7_assignments_7

def s_X7_assignmentsByTrucks (q : Nat → Nat → Int32) (o : Nat → Int32)  : Int32 := (s_X4_countByTrucks (q 0))
set_option maxHeartbeats 4000000 in
set_option maxRecDepth 100000 in
theorem c_X7_assignmentsByTrucks (l : Launch) (dC : va_G) (Z : Nat → Nat → Nat) (ad : Nat → Nat) (k : Nat → ClassId) (q : Nat → Nat → Int32) (pm : Nat → Nat) (o : Nat → Int32) (g : ft_G) : Met l yX7_assignmentsByTrucks wsX7_assignmentsByTrucks ({ frames := 4, cells := 0, slots := 0, locals := 90 }) (ft_Pc dC k [.ref (ad 253)] (ft_WR ad k Z q pm o g)) (vp_Si (fun z : Int32 => z = s_X7_assignmentsByTrucks q o)) 0 0 (fun _ => False) := by
  refine Met.ofW (cc := cX7_assignmentsByTrucks) (maxL := 1) (ret := (some .int)) (by decide) rfl ?_
  intro p e s m args below meth c s₁ B hml hv
  obtain ⟨hargs, hP, hK⟩ := hv
  subst hargs
  have hx := B.exec
  have hb := B.bytes
  have hr := B.returns
  have hts := atoms_spec (ws := wsX7_assignmentsByTrucks) B.pre
  have hown : s.vm.findClass RX7 = some m.cls := findClass_of_methodNamed B.named
  have hlocks := B.notSynchronized
  have hl := lv_entry ([.ref (ad 253)]) (n := 1) (Nat.le_of_ble_eq_true rfl)
  rw [lg_entry_eq]
  generalize (lg_sl ([.ref (ad 253)]) ++ List.replicate (1 - (lg_sl ([.ref (ad 253)])).length) Slot.unset).toArray = ls at hl ⊢
  have hl : lv_has ls 1 [(0, .ref (ad 253))] := hl
  have hsp := (s_X7_assignmentsByTrucks.eq_1 q o ).symm
  refine lv_aload_n hx hb dX7_assignmentsByTrucks_0 rfl (lv_at hl 0 rfl) ?_
  refine va_get (D := dC) (ci := 9) (v := .ref (ft_sq ad 0 0)) (C := RX7) (T := TX7) (N := 9) hx hb hts (by decide +kernel) hown hK.1 hP 253 (ft_get' (by decide) rfl) rfl 0 (by decide) (hts (.fieldLink RX7 12 "FoodTruckRota" "square" "LFoodTruckRota$Square;") (by decide +kernel)) (fun _ h9 => h9) rfl dX7_assignmentsByTrucks_1 ?_
  refine vp_callSi (va_Run.run (va_runV (As := []) (rest := []) ⟨hx, hb, hml, hown, hts⟩ (c_X4_countByTrucks l dC (ft_sq ad 0) k (q 0)) (cwV 0 hts gX7_assignmentsByTrucks_X4_countByTrucks rfl rfl rfl (by decide +kernel) ⟨Nat.le_of_ble_eq_true rfl, Nat.le_of_ble_eq_true rfl⟩) (ft_preVc hK (ft_R_S hP (s := 0) (by decide)) (ci := 6) rfl (ft_get' (by decide) rfl)) rfl rfl hl.1 rfl (lv_room (Nat.le_of_ble_eq_true rfl)) dX7_assignmentsByTrucks_4 ⟨Nat.le_of_ble_eq_true rfl, Nat.le_of_ble_eq_true rfl⟩)) (fun z hz => ?_)
  subst hz
  exact W.iret (v := (s_X4_countByTrucks (q 0))) hx hb hr (fun t ht hW => ft_endi (post := fun z : Int32 => z = s_X7_assignmentsByTrucks q o) hsp ht) (fun _ h => absurd h List.not_mem_nil) dX7_assignmentsByTrucks_7

theorem nar_b {v : Int32} (h : v = 0 ∨ v = 1) : narrow .boolean (.int v) = .int v := by rcases h with rfl | rfl <;> rfl
theorem isPermitted_01 (r : Nat → Int32) (b : Nat) (x : Int32) : s_X6_isPermitted r b x = 0 ∨ s_X6_isPermitted r b x = 1 := by
  unfold s_X6_isPermitted
  split
  · exact Or.inl rfl
  · split
    · exact Or.inl rfl
    · exact Or.inr rfl

def s_X7_stock (q : Nat → Nat → Int32) (o : Nat → Int32) (x1 : Int32) (x2 : Int32) : Except String Int32 := ft_xb (s_X7_needTruck q o x1) (fun _ => ft_xb (s_X7_needDish x2) (fun _ => .ok (s_X6_portionsOf (q 0) (51 + 17 * (tn x1)) x2)))
set_option maxHeartbeats 4000000 in
set_option maxRecDepth 100000 in
theorem c_X7_stock (l : Launch) (hl0 : l.stackTraces = false) (dC : va_G) (Z : Nat → Nat → Nat) (A : Nat → Prop) (ad : Nat → Nat) (k : Nat → ClassId) (q : Nat → Nat → Int32) (pm : Nat → Nat) (o : Nat → Int32) (g : ft_G) (x1 : Int32) (x2 : Int32): vx_Met l yX7_stock wsX7_stock ({ frames := 7, cells := 2, slots := 12, locals := 111 }) (ft_Pe dC k Z A [.ref (ad 253), .int x1, .int x2] (ft_WR ad k Z q pm o g)) (ft_Qx (s_X7_stock q o x1 x2)) (ft_Xx (s_X7_stock q o x1 x2)) 2 12 (fun _ => False) := by
  refine vx_ofW (cc := cX7_stock) (maxL := 3) (ret := (some .int)) (by decide) rfl ?_
  intro p e s m args below meth c s₁ B hml hnt hv
  obtain ⟨hargs, hP, hE⟩ := hv
  have hK := hE.1
  subst hargs
  have hx := B.exec
  have hb := B.bytes
  have hr := B.returns
  have hts := atoms_spec (ws := wsX7_stock) B.pre
  have hown : s.vm.findClass RX7 = some m.cls := findClass_of_methodNamed B.named
  have hlocks := B.notSynchronized
  have hS0 : va_S (fun _ => False) s.heap s.heap [] := va_S.rf
  have hl := lv_entry ([.ref (ad 253), .int x1, .int x2]) (n := 3) (Nat.le_of_ble_eq_true rfl)
  rw [lg_entry_eq]
  generalize (lg_sl ([.ref (ad 253), .int x1, .int x2]) ++ List.replicate (3 - (lg_sl ([.ref (ad 253), .int x1, .int x2])).length) Slot.unset).toArray = ls at hl ⊢
  have hl : lv_has ls 3 [(0, .ref (ad 253)), (1, .int (x1)), (2, .int (x2))] := hl
  have hsp := (s_X7_stock.eq_1 q o x1 x2).symm
  refine lv_aload_n hx hb dX7_stock_0 rfl (lv_at hl 0 rfl) ?_
  refine lv_iload_n hx hb dX7_stock_1 rfl (lv_at hl 1 rfl) ?_
  refine vx_callv (vx_runV (As := [.int (x1)]) (rest := []) ⟨hx, hb, hml, hown, hts⟩ (c_X7_needTruck l hl0 dC Z A ad k q pm o g x1) (cwV 1 hts gX7_stock_X7_needTruck rfl rfl rfl (by decide +kernel) ⟨Nat.le_of_ble_eq_true rfl, Nat.le_of_ble_eq_true rfl⟩) (ft_preVg hE (ft_Sm hS0) (fun _ h => h) hP (ci := 9) (q0 := 253) rfl (ft_get' (by decide) rfl)) rfl rfl hl.1 rfl (lv_room (Nat.le_of_ble_eq_true rfl)) dX7_stock_2 ⟨Nat.le_of_ble_eq_true rfl, Nat.le_of_ble_eq_true rfl⟩) hS0 (fun _ _ h => h) (fun _ h => h) (fun _ _ h => h) (fun E ce q9 u t H1 locs1 ht hvm hu hB hz1 hk1 hS1 hc1 hc2 hc3 => ?_) (fun u t H1 locs1 ht hvm hw hB hz1 hk1 hS1 => ?_)
  · exact vx_out (fun x hx9 => (hnt x hx9).elim) hlocks hc1 hc2 hc3 (fun t2 ht2 hv2 => ⟨(), trivial, ft_xb_err hB hsp, ft_Fx hS1 (by rw [ht2]; exact Nat.le_refl _) (fun q _ => by rw [ht2])⟩) (fun z hz => (hS1.2.2 z hz).elim) (by decide) (by decide)
  replace hsp := ft_xb_ok hw hsp
  have hP := ft_keep hP hk1
  have hw_2 := hw
  have hS0 := hS1
  clear hS1
  generalize H1 = H at hP hS0 ⊢
  refine lv_iload_n hx hb dX7_stock_5 rfl (lv_at hl 2 rfl) ?_
  refine vx_callv (vx_runS (As := [.int (x2)]) (rest := []) ⟨hx, hb, hml, hown, hts⟩ (c_X7_needDish l hl0 dC Z A k x2) (va_cwS 1 hts gX7_stock_X7_needDish rfl rfl rfl (by decide +kernel) ⟨Nat.le_of_ble_eq_true rfl, Nat.le_of_ble_eq_true rfl⟩) (ft_preSo hE (ft_Sm hS0) (fun _ h => h)) rfl rfl hl.1 rfl (lv_room (Nat.le_of_ble_eq_true rfl)) dX7_stock_6 ⟨Nat.le_of_ble_eq_true rfl, Nat.le_of_ble_eq_true rfl⟩) hS0 (fun _ _ h => h) (fun _ h => h) (fun _ _ h => h) (fun E ce q9 u t H1 locs1 ht hvm hu hB hz1 hk1 hS1 hc1 hc2 hc3 => ?_) (fun u t H1 locs1 ht hvm hw hB hz1 hk1 hS1 => ?_)
  · exact vx_out (fun x hx9 => (hnt x hx9).elim) hlocks hc1 hc2 hc3 (fun t2 ht2 hv2 => ⟨(), trivial, ft_xb_err hB hsp, ft_Fx hS1 (by rw [ht2]; exact Nat.le_refl _) (fun q _ => by rw [ht2])⟩) (fun z hz => (hS1.2.2 z hz).elim) (by decide) (by decide)
  replace hsp := ft_xb_ok hw hsp
  have hP := ft_keep hP hk1
  have hw_6 := hw
  have hS0 := hS1
  clear hS1
  generalize H1 = H at hP hS0 ⊢
  refine lv_aload_n hx hb dX7_stock_9 rfl (lv_at hl 0 rfl) ?_
  refine va_get (D := dC) (ci := 9) (v := .ref (ft_sq ad 0 0)) (C := RX7) (T := TX7) (N := 9) hx hb hts (by decide +kernel) hown hK.1 hP 253 (ft_get' (by decide) rfl) rfl 0 (by decide) (hts (.fieldLink RX7 12 "FoodTruckRota" "square" "LFoodTruckRota$Square;") (by decide +kernel)) (fun _ h9 => h9) rfl dX7_stock_10 ?_
  refine va_getN (D := dC) (ci := 6) (v := .ref (ft_sq ad 0 1)) (C := RX4) (T := TX4) (N := 12) hx hb hts (by decide +kernel) hown hK.1 (ft_R_S hP (s := 0) (by decide)) 0 (ft_get' (by decide) rfl) rfl 0 (by decide) (ft_nl hK.2 8 rfl) (fun _ h9 => h9) rfl dX7_stock_13 ?_
  refine lv_iload_n hx hb dX7_stock_16 rfl (lv_at hl 1 rfl) ?_
  have h_17 : vp_in x1 6 := by first | assumption | exact need_in (by assumption) | exact dish_in (by assumption)
  refine va_aldq (C := RX6) hx hb hK.1 (ft_R_S hP (s := 0) (by decide)) 1 1 (ft_get' (by decide) rfl) rfl h_17 dX7_stock_17 ?_
  refine W.eq (g2 := F0 m 18 ls [.ref (ft_at (ft_sq ad 0) (tn x1) 0)]) rfl ?_
  refine lv_iload_n hx hb dX7_stock_18 rfl (lv_at hl 2 rfl) ?_
  refine vp_callSi (va_Run.run (va_runV (As := [.int (x2)]) (rest := []) ⟨hx, hb, hml, hown, hts⟩ (c_X6_portionsOf l dC (ft_at (ft_sq ad 0) (tn x1)) k (q 0) (51 + 17 * (tn x1)) x2) (cwV 1 hts gX7_stock_X6_portionsOf rfl rfl rfl (by decide +kernel) ⟨Nat.le_of_ble_eq_true rfl, Nat.le_of_ble_eq_true rfl⟩) (ft_preVc hK (ft_S_P (ft_R_S hP (s := 0) (by decide)) (ft_tn h_17)) (ci := 8) rfl (ft_get' (by decide) rfl)) rfl rfl hl.1 rfl (lv_room (Nat.le_of_ble_eq_true rfl)) dX7_stock_19 ⟨Nat.le_of_ble_eq_true rfl, Nat.le_of_ble_eq_true rfl⟩)) (fun z hz => ?_)
  subst hz
  refine vx_ret ?_
  refine W.widen (k := 2) (n := 12) (by decide) (by decide) ?_
  exact W.iret (v := (s_X6_portionsOf (q 0) (51 + 17 * (tn x1)) x2)) hx hb hr (fun t ht hW => ⟨⟨(s_X6_portionsOf (q 0) (51 + 17 * (tn x1)) x2), (), rfl, hsp.symm, trivial⟩, ft_Fx hS0 (by rw [ht]; exact Nat.le_refl _) (fun q _ => by rw [ht])⟩) (fun z hz => (hS0.2.2 z hz).elim) dX7_stock_22

def s_X7_coins (q : Nat → Nat → Int32) (o : Nat → Int32) (x1 : Int32) : Except String Int32 := ft_xb (s_X7_needTruck q o x1) (fun _ => .ok (q 0 (51 + 17 * (tn x1) + 0)))
set_option maxHeartbeats 4000000 in
set_option maxRecDepth 100000 in
theorem c_X7_coins (l : Launch) (hl0 : l.stackTraces = false) (dC : va_G) (Z : Nat → Nat → Nat) (A : Nat → Prop) (ad : Nat → Nat) (k : Nat → ClassId) (q : Nat → Nat → Int32) (pm : Nat → Nat) (o : Nat → Int32) (g : ft_G) (x1 : Int32): vx_Met l yX7_coins wsX7_coins ({ frames := 7, cells := 1, slots := 6, locals := 111 }) (ft_Pe dC k Z A [.ref (ad 253), .int x1] (ft_WR ad k Z q pm o g)) (ft_Qx (s_X7_coins q o x1)) (ft_Xx (s_X7_coins q o x1)) 1 6 (fun _ => False) := by
  refine vx_ofW (cc := cX7_coins) (maxL := 2) (ret := (some .int)) (by decide) rfl ?_
  intro p e s m args below meth c s₁ B hml hnt hv
  obtain ⟨hargs, hP, hE⟩ := hv
  have hK := hE.1
  subst hargs
  have hx := B.exec
  have hb := B.bytes
  have hr := B.returns
  have hts := atoms_spec (ws := wsX7_coins) B.pre
  have hown : s.vm.findClass RX7 = some m.cls := findClass_of_methodNamed B.named
  have hlocks := B.notSynchronized
  have hS0 : va_S (fun _ => False) s.heap s.heap [] := va_S.rf
  have hl := lv_entry ([.ref (ad 253), .int x1]) (n := 2) (Nat.le_of_ble_eq_true rfl)
  rw [lg_entry_eq]
  generalize (lg_sl ([.ref (ad 253), .int x1]) ++ List.replicate (2 - (lg_sl ([.ref (ad 253), .int x1])).length) Slot.unset).toArray = ls at hl ⊢
  have hl : lv_has ls 2 [(0, .ref (ad 253)), (1, .int (x1))] := hl
  have hsp := (s_X7_coins.eq_1 q o x1).symm
  refine lv_aload_n hx hb dX7_coins_0 rfl (lv_at hl 0 rfl) ?_
  refine lv_iload_n hx hb dX7_coins_1 rfl (lv_at hl 1 rfl) ?_
  refine vx_callv (vx_runV (As := [.int (x1)]) (rest := []) ⟨hx, hb, hml, hown, hts⟩ (c_X7_needTruck l hl0 dC Z A ad k q pm o g x1) (cwV 1 hts gX7_coins_X7_needTruck rfl rfl rfl (by decide +kernel) ⟨Nat.le_of_ble_eq_true rfl, Nat.le_of_ble_eq_true rfl⟩) (ft_preVg hE (ft_Sm hS0) (fun _ h => h) hP (ci := 9) (q0 := 253) rfl (ft_get' (by decide) rfl)) rfl rfl hl.1 rfl (lv_room (Nat.le_of_ble_eq_true rfl)) dX7_coins_2 ⟨Nat.le_of_ble_eq_true rfl, Nat.le_of_ble_eq_true rfl⟩) hS0 (fun _ _ h => h) (fun _ h => h) (fun _ _ h => h) (fun E ce q9 u t H1 locs1 ht hvm hu hB hz1 hk1 hS1 hc1 hc2 hc3 => ?_) (fun u t H1 locs1 ht hvm hw hB hz1 hk1 hS1 => ?_)
  · exact vx_out (fun x hx9 => (hnt x hx9).elim) hlocks hc1 hc2 hc3 (fun t2 ht2 hv2 => ⟨(), trivial, ft_xb_err hB hsp, ft_Fx hS1 (by rw [ht2]; exact Nat.le_refl _) (fun q _ => by rw [ht2])⟩) (fun z hz => (hS1.2.2 z hz).elim) (by decide) (by decide)
  replace hsp := ft_xb_ok hw hsp
  have hP := ft_keep hP hk1
  have hw_2 := hw
  have hS0 := hS1
  clear hS1
  generalize H1 = H at hP hS0 ⊢
  refine lv_aload_n hx hb dX7_coins_5 rfl (lv_at hl 0 rfl) ?_
  refine va_get (D := dC) (ci := 9) (v := .ref (ft_sq ad 0 0)) (C := RX7) (T := TX7) (N := 9) hx hb hts (by decide +kernel) hown hK.1 hP 253 (ft_get' (by decide) rfl) rfl 0 (by decide) (hts (.fieldLink RX7 12 "FoodTruckRota" "square" "LFoodTruckRota$Square;") (by decide +kernel)) (fun _ h9 => h9) rfl dX7_coins_6 ?_
  refine va_getN (D := dC) (ci := 6) (v := .ref (ft_sq ad 0 1)) (C := RX4) (T := TX4) (N := 12) hx hb hts (by decide +kernel) hown hK.1 (ft_R_S hP (s := 0) (by decide)) 0 (ft_get' (by decide) rfl) rfl 0 (by decide) (ft_nl hK.2 8 rfl) (fun _ h9 => h9) rfl dX7_coins_9 ?_
  refine lv_iload_n hx hb dX7_coins_12 rfl (lv_at hl 1 rfl) ?_
  have h_13 : vp_in x1 6 := by first | assumption | exact need_in (by assumption) | exact dish_in (by assumption)
  refine va_aldq (C := RX6) hx hb hK.1 (ft_R_S hP (s := 0) (by decide)) 1 1 (ft_get' (by decide) rfl) rfl h_13 dX7_coins_13 ?_
  refine W.eq (g2 := F0 m 14 ls [.ref (ft_at (ft_sq ad 0) (tn x1) 0)]) rfl ?_
  refine va_getN (D := dC) (ci := 8) (v := .int (q 0 (51 + 17 * (tn x1) + 0))) (C := RX6) (T := TX6) (N := 6) hx hb hts (by decide +kernel) hown hK.1 (ft_S_P (ft_R_S hP (s := 0) (by decide)) (ft_tn h_13)) 0 (ft_get' (by decide) rfl) rfl 4 (by decide) (ft_nl hK.2 5 rfl) (fun _ h9 => h9) rfl dX7_coins_14 ?_
  refine vx_ret ?_
  refine W.widen (k := 1) (n := 6) (by decide) (by decide) ?_
  exact W.iret (v := q 0 (51 + 17 * (tn x1) + 0)) hx hb hr (fun t ht hW => ⟨⟨q 0 (51 + 17 * (tn x1) + 0), (), rfl, hsp.symm, trivial⟩, ft_Fx hS0 (by rw [ht]; exact Nat.le_refl _) (fun q _ => by rw [ht])⟩) (fun z hz => (hS0.2.2 z hz).elim) dX7_coins_17

def s_X7_price (q : Nat → Nat → Int32) (o : Nat → Int32) (x1 : Int32) : Except String Int32 := ft_xb (s_X7_needDish x1) (fun _ => .ok (ft_ar (q 0) 8 4 (tn x1)))
set_option maxHeartbeats 4000000 in
set_option maxRecDepth 100000 in
theorem c_X7_price (l : Launch) (hl0 : l.stackTraces = false) (dC : va_G) (Z : Nat → Nat → Nat) (A : Nat → Prop) (ad : Nat → Nat) (k : Nat → ClassId) (q : Nat → Nat → Int32) (pm : Nat → Nat) (o : Nat → Int32) (g : ft_G) (x1 : Int32): vx_Met l yX7_price wsX7_price ({ frames := 7, cells := 1, slots := 6, locals := 110 }) (ft_Pe dC k Z A [.ref (ad 253), .int x1] (ft_WR ad k Z q pm o g)) (ft_Qx (s_X7_price q o x1)) (ft_Xx (s_X7_price q o x1)) 1 6 (fun _ => False) := by
  refine vx_ofW (cc := cX7_price) (maxL := 2) (ret := (some .int)) (by decide) rfl ?_
  intro p e s m args below meth c s₁ B hml hnt hv
  obtain ⟨hargs, hP, hE⟩ := hv
  have hK := hE.1
  subst hargs
  have hx := B.exec
  have hb := B.bytes
  have hr := B.returns
  have hts := atoms_spec (ws := wsX7_price) B.pre
  have hown : s.vm.findClass RX7 = some m.cls := findClass_of_methodNamed B.named
  have hlocks := B.notSynchronized
  have hS0 : va_S (fun _ => False) s.heap s.heap [] := va_S.rf
  have hl := lv_entry ([.ref (ad 253), .int x1]) (n := 2) (Nat.le_of_ble_eq_true rfl)
  rw [lg_entry_eq]
  generalize (lg_sl ([.ref (ad 253), .int x1]) ++ List.replicate (2 - (lg_sl ([.ref (ad 253), .int x1])).length) Slot.unset).toArray = ls at hl ⊢
  have hl : lv_has ls 2 [(0, .ref (ad 253)), (1, .int (x1))] := hl
  have hsp := (s_X7_price.eq_1 q o x1).symm
  refine lv_iload_n hx hb dX7_price_0 rfl (lv_at hl 1 rfl) ?_
  refine vx_callv (vx_runS (As := [.int (x1)]) (rest := []) ⟨hx, hb, hml, hown, hts⟩ (c_X7_needDish l hl0 dC Z A k x1) (va_cwS 1 hts gX7_price_X7_needDish rfl rfl rfl (by decide +kernel) ⟨Nat.le_of_ble_eq_true rfl, Nat.le_of_ble_eq_true rfl⟩) (ft_preSo hE (ft_Sm hS0) (fun _ h => h)) rfl rfl hl.1 rfl (lv_room (Nat.le_of_ble_eq_true rfl)) dX7_price_1 ⟨Nat.le_of_ble_eq_true rfl, Nat.le_of_ble_eq_true rfl⟩) hS0 (fun _ _ h => h) (fun _ h => h) (fun _ _ h => h) (fun E ce q9 u t H1 locs1 ht hvm hu hB hz1 hk1 hS1 hc1 hc2 hc3 => ?_) (fun u t H1 locs1 ht hvm hw hB hz1 hk1 hS1 => ?_)
  · exact vx_out (fun x hx9 => (hnt x hx9).elim) hlocks hc1 hc2 hc3 (fun t2 ht2 hv2 => ⟨(), trivial, ft_xb_err hB hsp, ft_Fx hS1 (by rw [ht2]; exact Nat.le_refl _) (fun q _ => by rw [ht2])⟩) (fun z hz => (hS1.2.2 z hz).elim) (by decide) (by decide)
  replace hsp := ft_xb_ok hw hsp
  have hP := ft_keep hP hk1
  have hw_1 := hw
  have hS0 := hS1
  clear hS1
  generalize H1 = H at hP hS0 ⊢
  refine lv_aload_n hx hb dX7_price_4 rfl (lv_at hl 0 rfl) ?_
  refine va_get (D := dC) (ci := 9) (v := .ref (ft_sq ad 0 0)) (C := RX7) (T := TX7) (N := 9) hx hb hts (by decide +kernel) hown hK.1 hP 253 (ft_get' (by decide) rfl) rfl 0 (by decide) (hts (.fieldLink RX7 12 "FoodTruckRota" "square" "LFoodTruckRota$Square;") (by decide +kernel)) (fun _ h9 => h9) rfl dX7_price_5 ?_
  refine va_getN (D := dC) (ci := 6) (v := .ref (ft_sq ad 0 3)) (C := RX4) (T := TX4) (N := 12) hx hb hts (by decide +kernel) hown hK.1 (ft_R_S hP (s := 0) (by decide)) 0 (ft_get' (by decide) rfl) rfl 2 (by decide) (ft_nl hK.2 9 rfl) (fun _ h9 => h9) rfl dX7_price_8 ?_
  refine lv_iload_n hx hb dX7_price_11 rfl (lv_at hl 1 rfl) ?_
  have h_12 : vp_in x1 4 := by first | assumption | exact need_in (by assumption) | exact dish_in (by assumption)
  refine va_iald hx hb hK.1 (ft_R_S hP (s := 0) (by decide)) 3 0 (ft_get' (by decide) rfl) rfl h_12 dX7_price_12 ?_
  refine vx_ret ?_
  refine W.widen (k := 1) (n := 6) (by decide) (by decide) ?_
  exact W.iret (v := ft_ar (q 0) 8 4 (tn x1)) hx hb hr (fun t ht hW => ⟨⟨ft_ar (q 0) 8 4 (tn x1), (), rfl, hsp.symm, trivial⟩, ft_Fx hS0 (by rw [ht]; exact Nat.le_refl _) (fun q _ => by rw [ht])⟩) (fun z hz => (hS0.2.2 z hz).elim) dX7_price_13

def s_X7_hasPermit (q : Nat → Nat → Int32) (o : Nat → Int32) (x1 : Int32) (x2 : Int32) : Except String Int32 := ft_xb (s_X7_needTruck q o x1) (fun _ => ft_xb (s_X7_needWeekday x2) (fun _ => .ok (s_X6_isPermitted (q 0) (51 + 17 * (tn x1)) x2)))
set_option maxHeartbeats 4000000 in
set_option maxRecDepth 100000 in
theorem c_X7_hasPermit (l : Launch) (hl0 : l.stackTraces = false) (dC : va_G) (Z : Nat → Nat → Nat) (A : Nat → Prop) (ad : Nat → Nat) (k : Nat → ClassId) (q : Nat → Nat → Int32) (pm : Nat → Nat) (o : Nat → Int32) (g : ft_G) (x1 : Int32) (x2 : Int32): vx_Met l yX7_hasPermit wsX7_hasPermit ({ frames := 7, cells := 2, slots := 12, locals := 111 }) (ft_Pe dC k Z A [.ref (ad 253), .int x1, .int x2] (ft_WR ad k Z q pm o g)) (ft_Qx (s_X7_hasPermit q o x1 x2)) (ft_Xx (s_X7_hasPermit q o x1 x2)) 2 12 (fun _ => False) := by
  refine vx_ofW (cc := cX7_hasPermit) (maxL := 3) (ret := (some .boolean)) (by decide) rfl ?_
  intro p e s m args below meth c s₁ B hml hnt hv
  obtain ⟨hargs, hP, hE⟩ := hv
  have hK := hE.1
  subst hargs
  have hx := B.exec
  have hb := B.bytes
  have hr := B.returns
  have hts := atoms_spec (ws := wsX7_hasPermit) B.pre
  have hown : s.vm.findClass RX7 = some m.cls := findClass_of_methodNamed B.named
  have hlocks := B.notSynchronized
  have hS0 : va_S (fun _ => False) s.heap s.heap [] := va_S.rf
  have hl := lv_entry ([.ref (ad 253), .int x1, .int x2]) (n := 3) (Nat.le_of_ble_eq_true rfl)
  rw [lg_entry_eq]
  generalize (lg_sl ([.ref (ad 253), .int x1, .int x2]) ++ List.replicate (3 - (lg_sl ([.ref (ad 253), .int x1, .int x2])).length) Slot.unset).toArray = ls at hl ⊢
  have hl : lv_has ls 3 [(0, .ref (ad 253)), (1, .int (x1)), (2, .int (x2))] := hl
  have hsp := (s_X7_hasPermit.eq_1 q o x1 x2).symm
  refine lv_aload_n hx hb dX7_hasPermit_0 rfl (lv_at hl 0 rfl) ?_
  refine lv_iload_n hx hb dX7_hasPermit_1 rfl (lv_at hl 1 rfl) ?_
  refine vx_callv (vx_runV (As := [.int (x1)]) (rest := []) ⟨hx, hb, hml, hown, hts⟩ (c_X7_needTruck l hl0 dC Z A ad k q pm o g x1) (cwV 1 hts gX7_hasPermit_X7_needTruck rfl rfl rfl (by decide +kernel) ⟨Nat.le_of_ble_eq_true rfl, Nat.le_of_ble_eq_true rfl⟩) (ft_preVg hE (ft_Sm hS0) (fun _ h => h) hP (ci := 9) (q0 := 253) rfl (ft_get' (by decide) rfl)) rfl rfl hl.1 rfl (lv_room (Nat.le_of_ble_eq_true rfl)) dX7_hasPermit_2 ⟨Nat.le_of_ble_eq_true rfl, Nat.le_of_ble_eq_true rfl⟩) hS0 (fun _ _ h => h) (fun _ h => h) (fun _ _ h => h) (fun E ce q9 u t H1 locs1 ht hvm hu hB hz1 hk1 hS1 hc1 hc2 hc3 => ?_) (fun u t H1 locs1 ht hvm hw hB hz1 hk1 hS1 => ?_)
  · exact vx_out (fun x hx9 => (hnt x hx9).elim) hlocks hc1 hc2 hc3 (fun t2 ht2 hv2 => ⟨(), trivial, ft_xb_err hB hsp, ft_Fx hS1 (by rw [ht2]; exact Nat.le_refl _) (fun q _ => by rw [ht2])⟩) (fun z hz => (hS1.2.2 z hz).elim) (by decide) (by decide)
  replace hsp := ft_xb_ok hw hsp
  have hP := ft_keep hP hk1
  have hw_2 := hw
  have hS0 := hS1
  clear hS1
  generalize H1 = H at hP hS0 ⊢
  refine lv_iload_n hx hb dX7_hasPermit_5 rfl (lv_at hl 2 rfl) ?_
  refine vx_callv (vx_runS (As := [.int (x2)]) (rest := []) ⟨hx, hb, hml, hown, hts⟩ (c_X7_needWeekday l hl0 dC Z A k x2) (va_cwS 1 hts gX7_hasPermit_X7_needWeekday rfl rfl rfl (by decide +kernel) ⟨Nat.le_of_ble_eq_true rfl, Nat.le_of_ble_eq_true rfl⟩) (ft_preSo hE (ft_Sm hS0) (fun _ h => h)) rfl rfl hl.1 rfl (lv_room (Nat.le_of_ble_eq_true rfl)) dX7_hasPermit_6 ⟨Nat.le_of_ble_eq_true rfl, Nat.le_of_ble_eq_true rfl⟩) hS0 (fun _ _ h => h) (fun _ h => h) (fun _ _ h => h) (fun E ce q9 u t H1 locs1 ht hvm hu hB hz1 hk1 hS1 hc1 hc2 hc3 => ?_) (fun u t H1 locs1 ht hvm hw hB hz1 hk1 hS1 => ?_)
  · exact vx_out (fun x hx9 => (hnt x hx9).elim) hlocks hc1 hc2 hc3 (fun t2 ht2 hv2 => ⟨(), trivial, ft_xb_err hB hsp, ft_Fx hS1 (by rw [ht2]; exact Nat.le_refl _) (fun q _ => by rw [ht2])⟩) (fun z hz => (hS1.2.2 z hz).elim) (by decide) (by decide)
  replace hsp := ft_xb_ok hw hsp
  have hP := ft_keep hP hk1
  have hw_6 := hw
  have hS0 := hS1
  clear hS1
  generalize H1 = H at hP hS0 ⊢
  refine lv_aload_n hx hb dX7_hasPermit_9 rfl (lv_at hl 0 rfl) ?_
  refine va_get (D := dC) (ci := 9) (v := .ref (ft_sq ad 0 0)) (C := RX7) (T := TX7) (N := 9) hx hb hts (by decide +kernel) hown hK.1 hP 253 (ft_get' (by decide) rfl) rfl 0 (by decide) (hts (.fieldLink RX7 12 "FoodTruckRota" "square" "LFoodTruckRota$Square;") (by decide +kernel)) (fun _ h9 => h9) rfl dX7_hasPermit_10 ?_
  refine va_getN (D := dC) (ci := 6) (v := .ref (ft_sq ad 0 1)) (C := RX4) (T := TX4) (N := 12) hx hb hts (by decide +kernel) hown hK.1 (ft_R_S hP (s := 0) (by decide)) 0 (ft_get' (by decide) rfl) rfl 0 (by decide) (ft_nl hK.2 8 rfl) (fun _ h9 => h9) rfl dX7_hasPermit_13 ?_
  refine lv_iload_n hx hb dX7_hasPermit_16 rfl (lv_at hl 1 rfl) ?_
  have h_17 : vp_in x1 6 := by first | assumption | exact need_in (by assumption) | exact dish_in (by assumption)
  refine va_aldq (C := RX6) hx hb hK.1 (ft_R_S hP (s := 0) (by decide)) 1 1 (ft_get' (by decide) rfl) rfl h_17 dX7_hasPermit_17 ?_
  refine W.eq (g2 := F0 m 18 ls [.ref (ft_at (ft_sq ad 0) (tn x1) 0)]) rfl ?_
  refine lv_iload_n hx hb dX7_hasPermit_18 rfl (lv_at hl 2 rfl) ?_
  refine vp_callSi (va_Run.run (va_runV (As := [.int (x2)]) (rest := []) ⟨hx, hb, hml, hown, hts⟩ (c_X6_isPermitted l dC (ft_at (ft_sq ad 0) (tn x1)) k (q 0) (51 + 17 * (tn x1)) x2) (cwV 1 hts gX7_hasPermit_X6_isPermitted rfl rfl rfl (by decide +kernel) ⟨Nat.le_of_ble_eq_true rfl, Nat.le_of_ble_eq_true rfl⟩) (ft_preVc hK (ft_S_P (ft_R_S hP (s := 0) (by decide)) (ft_tn h_17)) (ci := 8) rfl (ft_get' (by decide) rfl)) rfl rfl hl.1 rfl (lv_room (Nat.le_of_ble_eq_true rfl)) dX7_hasPermit_19 ⟨Nat.le_of_ble_eq_true rfl, Nat.le_of_ble_eq_true rfl⟩)) (fun z hz => ?_)
  subst hz
  refine vx_ret ?_
  refine W.widen (k := 2) (n := 12) (by decide) (by decide) ?_
  exact W.zret (v := (s_X6_isPermitted (q 0) (51 + 17 * (tn x1)) x2)) hx hb hr (nar_b (isPermitted_01 _ _ _)) (fun t ht hW => ⟨⟨(s_X6_isPermitted (q 0) (51 + 17 * (tn x1)) x2), (), rfl, hsp.symm, trivial⟩, ft_Fx hS0 (by rw [ht]; exact Nat.le_refl _) (fun q _ => by rw [ht])⟩) (fun z hz => (hS0.2.2 z hz).elim) dX7_hasPermit_22

def s_X7_truckAt (q : Nat → Nat → Int32) (o : Nat → Int32) (x1 : Int32) (x2 : Int32) : Except String Int32 := ft_xb (s_X7_needPitch x1) (fun _ => ft_xb (s_X7_needWeekday x2) (fun _ => ft_xb (s_X7_needFound (s_X4_holderOf (q 0) x1 x2)) (fun z_17 => .ok z_17)))
set_option maxHeartbeats 4000000 in
set_option maxRecDepth 100000 in
theorem c_X7_truckAt (l : Launch) (hl0 : l.stackTraces = false) (dC : va_G) (Z : Nat → Nat → Nat) (A : Nat → Prop) (ad : Nat → Nat) (k : Nat → ClassId) (q : Nat → Nat → Int32) (pm : Nat → Nat) (o : Nat → Int32) (g : ft_G) (x1 : Int32) (x2 : Int32): vx_Met l yX7_truckAt wsX7_truckAt ({ frames := 7, cells := 3, slots := 18, locals := 110 }) (ft_Pe dC k Z A [.ref (ad 253), .int x1, .int x2] (ft_WR ad k Z q pm o g)) (ft_Qx (s_X7_truckAt q o x1 x2)) (ft_Xx (s_X7_truckAt q o x1 x2)) 3 18 (fun _ => False) := by
  refine vx_ofW (cc := cX7_truckAt) (maxL := 3) (ret := (some .int)) (by decide) rfl ?_
  intro p e s m args below meth c s₁ B hml hnt hv
  obtain ⟨hargs, hP, hE⟩ := hv
  have hK := hE.1
  subst hargs
  have hx := B.exec
  have hb := B.bytes
  have hr := B.returns
  have hts := atoms_spec (ws := wsX7_truckAt) B.pre
  have hown : s.vm.findClass RX7 = some m.cls := findClass_of_methodNamed B.named
  have hlocks := B.notSynchronized
  have hS0 : va_S (fun _ => False) s.heap s.heap [] := va_S.rf
  have hl := lv_entry ([.ref (ad 253), .int x1, .int x2]) (n := 3) (Nat.le_of_ble_eq_true rfl)
  rw [lg_entry_eq]
  generalize (lg_sl ([.ref (ad 253), .int x1, .int x2]) ++ List.replicate (3 - (lg_sl ([.ref (ad 253), .int x1, .int x2])).length) Slot.unset).toArray = ls at hl ⊢
  have hl : lv_has ls 3 [(0, .ref (ad 253)), (1, .int (x1)), (2, .int (x2))] := hl
  have hsp := (s_X7_truckAt.eq_1 q o x1 x2).symm
  refine lv_iload_n hx hb dX7_truckAt_0 rfl (lv_at hl 1 rfl) ?_
  refine vx_callv (vx_runS (As := [.int (x1)]) (rest := []) ⟨hx, hb, hml, hown, hts⟩ (c_X7_needPitch l hl0 dC Z A k x1) (va_cwS 1 hts gX7_truckAt_X7_needPitch rfl rfl rfl (by decide +kernel) ⟨Nat.le_of_ble_eq_true rfl, Nat.le_of_ble_eq_true rfl⟩) (ft_preSo hE (ft_Sm hS0) (fun _ h => h)) rfl rfl hl.1 rfl (lv_room (Nat.le_of_ble_eq_true rfl)) dX7_truckAt_1 ⟨Nat.le_of_ble_eq_true rfl, Nat.le_of_ble_eq_true rfl⟩) hS0 (fun _ _ h => h) (fun _ h => h) (fun _ _ h => h) (fun E ce q9 u t H1 locs1 ht hvm hu hB hz1 hk1 hS1 hc1 hc2 hc3 => ?_) (fun u t H1 locs1 ht hvm hw hB hz1 hk1 hS1 => ?_)
  · exact vx_out (fun x hx9 => (hnt x hx9).elim) hlocks hc1 hc2 hc3 (fun t2 ht2 hv2 => ⟨(), trivial, ft_xb_err hB hsp, ft_Fx hS1 (by rw [ht2]; exact Nat.le_refl _) (fun q _ => by rw [ht2])⟩) (fun z hz => (hS1.2.2 z hz).elim) (by decide) (by decide)
  replace hsp := ft_xb_ok hw hsp
  have hP := ft_keep hP hk1
  have hw_1 := hw
  have hS0 := hS1
  clear hS1
  generalize H1 = H at hP hS0 ⊢
  refine lv_iload_n hx hb dX7_truckAt_4 rfl (lv_at hl 2 rfl) ?_
  refine vx_callv (vx_runS (As := [.int (x2)]) (rest := []) ⟨hx, hb, hml, hown, hts⟩ (c_X7_needWeekday l hl0 dC Z A k x2) (va_cwS 1 hts gX7_truckAt_X7_needWeekday rfl rfl rfl (by decide +kernel) ⟨Nat.le_of_ble_eq_true rfl, Nat.le_of_ble_eq_true rfl⟩) (ft_preSo hE (ft_Sm hS0) (fun _ h => h)) rfl rfl hl.1 rfl (lv_room (Nat.le_of_ble_eq_true rfl)) dX7_truckAt_5 ⟨Nat.le_of_ble_eq_true rfl, Nat.le_of_ble_eq_true rfl⟩) hS0 (fun _ _ h => h) (fun _ h => h) (fun _ _ h => h) (fun E ce q9 u t H1 locs1 ht hvm hu hB hz1 hk1 hS1 hc1 hc2 hc3 => ?_) (fun u t H1 locs1 ht hvm hw hB hz1 hk1 hS1 => ?_)
  · exact vx_out (fun x hx9 => (hnt x hx9).elim) hlocks hc1 hc2 hc3 (fun t2 ht2 hv2 => ⟨(), trivial, ft_xb_err hB hsp, ft_Fx hS1 (by rw [ht2]; exact Nat.le_refl _) (fun q _ => by rw [ht2])⟩) (fun z hz => (hS1.2.2 z hz).elim) (by decide) (by decide)
  replace hsp := ft_xb_ok hw hsp
  have hP := ft_keep hP hk1
  have hw_5 := hw
  have hS0 := hS1
  clear hS1
  generalize H1 = H at hP hS0 ⊢
  refine lv_aload_n hx hb dX7_truckAt_8 rfl (lv_at hl 0 rfl) ?_
  refine va_get (D := dC) (ci := 9) (v := .ref (ft_sq ad 0 0)) (C := RX7) (T := TX7) (N := 9) hx hb hts (by decide +kernel) hown hK.1 hP 253 (ft_get' (by decide) rfl) rfl 0 (by decide) (hts (.fieldLink RX7 12 "FoodTruckRota" "square" "LFoodTruckRota$Square;") (by decide +kernel)) (fun _ h9 => h9) rfl dX7_truckAt_9 ?_
  refine lv_iload_n hx hb dX7_truckAt_12 rfl (lv_at hl 1 rfl) ?_
  refine lv_iload_n hx hb dX7_truckAt_13 rfl (lv_at hl 2 rfl) ?_
  refine vp_callSi (va_Run.run (va_runV (As := [.int (x1), .int (x2)]) (rest := []) ⟨hx, hb, hml, hown, hts⟩ (c_X4_holderOf l dC (ft_sq ad 0) k (q 0) x1 x2) (cwV 2 hts gX7_truckAt_X4_holderOf rfl rfl rfl (by decide +kernel) ⟨Nat.le_of_ble_eq_true rfl, Nat.le_of_ble_eq_true rfl⟩) (ft_preVc hK (ft_R_S hP (s := 0) (by decide)) (ci := 6) rfl (ft_get' (by decide) rfl)) rfl rfl hl.1 rfl (lv_room (Nat.le_of_ble_eq_true rfl)) dX7_truckAt_14 ⟨Nat.le_of_ble_eq_true rfl, Nat.le_of_ble_eq_true rfl⟩)) (fun z hz => ?_)
  subst hz
  refine vx_calli (vx_runS (As := [.int ((s_X4_holderOf (q 0) x1 x2))]) (rest := []) ⟨hx, hb, hml, hown, hts⟩ (c_X7_needFound l hl0 dC Z A k (s_X4_holderOf (q 0) x1 x2)) (va_cwS 1 hts gX7_truckAt_X7_needFound rfl rfl rfl (by decide +kernel) ⟨Nat.le_of_ble_eq_true rfl, Nat.le_of_ble_eq_true rfl⟩) (ft_preSo hE (ft_Sm hS0) (fun _ h => h)) rfl rfl hl.1 rfl (lv_room (Nat.le_of_ble_eq_true rfl)) dX7_truckAt_17 ⟨Nat.le_of_ble_eq_true rfl, Nat.le_of_ble_eq_true rfl⟩) hS0 (fun _ _ h => h) (fun _ h => h) (fun _ _ h => h) (fun E ce q9 u t H1 locs1 ht hvm hu hB hz1 hk1 hS1 hc1 hc2 hc3 => ?_) (fun z_17 u t H1 locs1 ht hvm hw hB hz1 hk1 hS1 => ?_)
  · exact vx_out (fun x hx9 => (hnt x hx9).elim) hlocks hc1 hc2 hc3 (fun t2 ht2 hv2 => ⟨(), trivial, ft_xb_err hB hsp, ft_Fx hS1 (by rw [ht2]; exact Nat.le_refl _) (fun q _ => by rw [ht2])⟩) (fun z hz => (hS1.2.2 z hz).elim) (by decide) (by decide)
  replace hsp := ft_xb_ok hw hsp
  have hP := ft_keep hP hk1
  have hw_17 := hw
  have hS0 := hS1
  clear hS1
  generalize H1 = H at hP hS0 ⊢
  refine vx_ret ?_
  refine W.widen (k := 3) (n := 18) (by decide) (by decide) ?_
  exact W.iret (v := z_17) hx hb hr (fun t ht hW => ⟨⟨z_17, (), rfl, hsp.symm, trivial⟩, ft_Fx hS0 (by rw [ht]; exact Nat.le_refl _) (fun q _ => by rw [ht])⟩) (fun z hz => (hS0.2.2 z hz).elim) dX7_truckAt_20

def s_X7_pitchOf (q : Nat → Nat → Int32) (o : Nat → Int32) (x1 : Int32) (x2 : Int32) : Except String Int32 := ft_xb (s_X7_needTruck q o x1) (fun _ => ft_xb (s_X7_needWeekday x2) (fun _ => ft_xb (s_X7_needFound (s_X4_pitchHeldBy (q 0) x1 x2)) (fun z_18 => .ok z_18)))
set_option maxHeartbeats 4000000 in
set_option maxRecDepth 100000 in
theorem c_X7_pitchOf (l : Launch) (hl0 : l.stackTraces = false) (dC : va_G) (Z : Nat → Nat → Nat) (A : Nat → Prop) (ad : Nat → Nat) (k : Nat → ClassId) (q : Nat → Nat → Int32) (pm : Nat → Nat) (o : Nat → Int32) (g : ft_G) (x1 : Int32) (x2 : Int32): vx_Met l yX7_pitchOf wsX7_pitchOf ({ frames := 7, cells := 3, slots := 18, locals := 111 }) (ft_Pe dC k Z A [.ref (ad 253), .int x1, .int x2] (ft_WR ad k Z q pm o g)) (ft_Qx (s_X7_pitchOf q o x1 x2)) (ft_Xx (s_X7_pitchOf q o x1 x2)) 3 18 (fun _ => False) := by
  refine vx_ofW (cc := cX7_pitchOf) (maxL := 3) (ret := (some .int)) (by decide) rfl ?_
  intro p e s m args below meth c s₁ B hml hnt hv
  obtain ⟨hargs, hP, hE⟩ := hv
  have hK := hE.1
  subst hargs
  have hx := B.exec
  have hb := B.bytes
  have hr := B.returns
  have hts := atoms_spec (ws := wsX7_pitchOf) B.pre
  have hown : s.vm.findClass RX7 = some m.cls := findClass_of_methodNamed B.named
  have hlocks := B.notSynchronized
  have hS0 : va_S (fun _ => False) s.heap s.heap [] := va_S.rf
  have hl := lv_entry ([.ref (ad 253), .int x1, .int x2]) (n := 3) (Nat.le_of_ble_eq_true rfl)
  rw [lg_entry_eq]
  generalize (lg_sl ([.ref (ad 253), .int x1, .int x2]) ++ List.replicate (3 - (lg_sl ([.ref (ad 253), .int x1, .int x2])).length) Slot.unset).toArray = ls at hl ⊢
  have hl : lv_has ls 3 [(0, .ref (ad 253)), (1, .int (x1)), (2, .int (x2))] := hl
  have hsp := (s_X7_pitchOf.eq_1 q o x1 x2).symm
  refine lv_aload_n hx hb dX7_pitchOf_0 rfl (lv_at hl 0 rfl) ?_
  refine lv_iload_n hx hb dX7_pitchOf_1 rfl (lv_at hl 1 rfl) ?_
  refine vx_callv (vx_runV (As := [.int (x1)]) (rest := []) ⟨hx, hb, hml, hown, hts⟩ (c_X7_needTruck l hl0 dC Z A ad k q pm o g x1) (cwV 1 hts gX7_pitchOf_X7_needTruck rfl rfl rfl (by decide +kernel) ⟨Nat.le_of_ble_eq_true rfl, Nat.le_of_ble_eq_true rfl⟩) (ft_preVg hE (ft_Sm hS0) (fun _ h => h) hP (ci := 9) (q0 := 253) rfl (ft_get' (by decide) rfl)) rfl rfl hl.1 rfl (lv_room (Nat.le_of_ble_eq_true rfl)) dX7_pitchOf_2 ⟨Nat.le_of_ble_eq_true rfl, Nat.le_of_ble_eq_true rfl⟩) hS0 (fun _ _ h => h) (fun _ h => h) (fun _ _ h => h) (fun E ce q9 u t H1 locs1 ht hvm hu hB hz1 hk1 hS1 hc1 hc2 hc3 => ?_) (fun u t H1 locs1 ht hvm hw hB hz1 hk1 hS1 => ?_)
  · exact vx_out (fun x hx9 => (hnt x hx9).elim) hlocks hc1 hc2 hc3 (fun t2 ht2 hv2 => ⟨(), trivial, ft_xb_err hB hsp, ft_Fx hS1 (by rw [ht2]; exact Nat.le_refl _) (fun q _ => by rw [ht2])⟩) (fun z hz => (hS1.2.2 z hz).elim) (by decide) (by decide)
  replace hsp := ft_xb_ok hw hsp
  have hP := ft_keep hP hk1
  have hw_2 := hw
  have hS0 := hS1
  clear hS1
  generalize H1 = H at hP hS0 ⊢
  refine lv_iload_n hx hb dX7_pitchOf_5 rfl (lv_at hl 2 rfl) ?_
  refine vx_callv (vx_runS (As := [.int (x2)]) (rest := []) ⟨hx, hb, hml, hown, hts⟩ (c_X7_needWeekday l hl0 dC Z A k x2) (va_cwS 1 hts gX7_pitchOf_X7_needWeekday rfl rfl rfl (by decide +kernel) ⟨Nat.le_of_ble_eq_true rfl, Nat.le_of_ble_eq_true rfl⟩) (ft_preSo hE (ft_Sm hS0) (fun _ h => h)) rfl rfl hl.1 rfl (lv_room (Nat.le_of_ble_eq_true rfl)) dX7_pitchOf_6 ⟨Nat.le_of_ble_eq_true rfl, Nat.le_of_ble_eq_true rfl⟩) hS0 (fun _ _ h => h) (fun _ h => h) (fun _ _ h => h) (fun E ce q9 u t H1 locs1 ht hvm hu hB hz1 hk1 hS1 hc1 hc2 hc3 => ?_) (fun u t H1 locs1 ht hvm hw hB hz1 hk1 hS1 => ?_)
  · exact vx_out (fun x hx9 => (hnt x hx9).elim) hlocks hc1 hc2 hc3 (fun t2 ht2 hv2 => ⟨(), trivial, ft_xb_err hB hsp, ft_Fx hS1 (by rw [ht2]; exact Nat.le_refl _) (fun q _ => by rw [ht2])⟩) (fun z hz => (hS1.2.2 z hz).elim) (by decide) (by decide)
  replace hsp := ft_xb_ok hw hsp
  have hP := ft_keep hP hk1
  have hw_6 := hw
  have hS0 := hS1
  clear hS1
  generalize H1 = H at hP hS0 ⊢
  refine lv_aload_n hx hb dX7_pitchOf_9 rfl (lv_at hl 0 rfl) ?_
  refine va_get (D := dC) (ci := 9) (v := .ref (ft_sq ad 0 0)) (C := RX7) (T := TX7) (N := 9) hx hb hts (by decide +kernel) hown hK.1 hP 253 (ft_get' (by decide) rfl) rfl 0 (by decide) (hts (.fieldLink RX7 12 "FoodTruckRota" "square" "LFoodTruckRota$Square;") (by decide +kernel)) (fun _ h9 => h9) rfl dX7_pitchOf_10 ?_
  refine lv_iload_n hx hb dX7_pitchOf_13 rfl (lv_at hl 1 rfl) ?_
  refine lv_iload_n hx hb dX7_pitchOf_14 rfl (lv_at hl 2 rfl) ?_
  refine vp_callSi (va_Run.run (va_runV (As := [.int (x1), .int (x2)]) (rest := []) ⟨hx, hb, hml, hown, hts⟩ (c_X4_pitchHeldBy l dC (ft_sq ad 0) k (q 0) x1 x2) (cwV 2 hts gX7_pitchOf_X4_pitchHeldBy rfl rfl rfl (by decide +kernel) ⟨Nat.le_of_ble_eq_true rfl, Nat.le_of_ble_eq_true rfl⟩) (ft_preVc hK (ft_R_S hP (s := 0) (by decide)) (ci := 6) rfl (ft_get' (by decide) rfl)) rfl rfl hl.1 rfl (lv_room (Nat.le_of_ble_eq_true rfl)) dX7_pitchOf_15 ⟨Nat.le_of_ble_eq_true rfl, Nat.le_of_ble_eq_true rfl⟩)) (fun z hz => ?_)
  subst hz
  refine vx_calli (vx_runS (As := [.int ((s_X4_pitchHeldBy (q 0) x1 x2))]) (rest := []) ⟨hx, hb, hml, hown, hts⟩ (c_X7_needFound l hl0 dC Z A k (s_X4_pitchHeldBy (q 0) x1 x2)) (va_cwS 1 hts gX7_pitchOf_X7_needFound rfl rfl rfl (by decide +kernel) ⟨Nat.le_of_ble_eq_true rfl, Nat.le_of_ble_eq_true rfl⟩) (ft_preSo hE (ft_Sm hS0) (fun _ h => h)) rfl rfl hl.1 rfl (lv_room (Nat.le_of_ble_eq_true rfl)) dX7_pitchOf_18 ⟨Nat.le_of_ble_eq_true rfl, Nat.le_of_ble_eq_true rfl⟩) hS0 (fun _ _ h => h) (fun _ h => h) (fun _ _ h => h) (fun E ce q9 u t H1 locs1 ht hvm hu hB hz1 hk1 hS1 hc1 hc2 hc3 => ?_) (fun z_18 u t H1 locs1 ht hvm hw hB hz1 hk1 hS1 => ?_)
  · exact vx_out (fun x hx9 => (hnt x hx9).elim) hlocks hc1 hc2 hc3 (fun t2 ht2 hv2 => ⟨(), trivial, ft_xb_err hB hsp, ft_Fx hS1 (by rw [ht2]; exact Nat.le_refl _) (fun q _ => by rw [ht2])⟩) (fun z hz => (hS1.2.2 z hz).elim) (by decide) (by decide)
  replace hsp := ft_xb_ok hw hsp
  have hP := ft_keep hP hk1
  have hw_18 := hw
  have hS0 := hS1
  clear hS1
  generalize H1 = H at hP hS0 ⊢
  refine vx_ret ?_
  refine W.widen (k := 3) (n := 18) (by decide) (by decide) ?_
  exact W.iret (v := z_18) hx hb hr (fun t ht hW => ⟨⟨z_18, (), rfl, hsp.symm, trivial⟩, ft_Fx hS0 (by rw [ht]; exact Nat.le_refl _) (fun q _ => by rw [ht])⟩) (fun z hz => (hS0.2.2 z hz).elim) dX7_pitchOf_21

def s_X7_isOpen (q : Nat → Nat → Int32) (o : Nat → Int32) (x1 : Int32) : Except String Int32 := ft_xb (s_X7_needTruck q o x1) (fun _ => if (s_X4_pitchToday (q 0) x1) = (-1) then (.ok 0) else (.ok 1))
set_option maxHeartbeats 4000000 in
set_option maxRecDepth 100000 in
theorem c_X7_isOpen (l : Launch) (hl0 : l.stackTraces = false) (dC : va_G) (Z : Nat → Nat → Nat) (A : Nat → Prop) (ad : Nat → Nat) (k : Nat → ClassId) (q : Nat → Nat → Int32) (pm : Nat → Nat) (o : Nat → Int32) (g : ft_G) (x1 : Int32): vx_Met l yX7_isOpen wsX7_isOpen ({ frames := 7, cells := 1, slots := 6, locals := 111 }) (ft_Pe dC k Z A [.ref (ad 253), .int x1] (ft_WR ad k Z q pm o g)) (ft_Qx (s_X7_isOpen q o x1)) (ft_Xx (s_X7_isOpen q o x1)) 1 6 (fun _ => False) := by
  refine vx_ofW (cc := cX7_isOpen) (maxL := 2) (ret := (some .boolean)) (by decide) rfl ?_
  intro p e s m args below meth c s₁ B hml hnt hv
  obtain ⟨hargs, hP, hE⟩ := hv
  have hK := hE.1
  subst hargs
  have hx := B.exec
  have hb := B.bytes
  have hr := B.returns
  have hts := atoms_spec (ws := wsX7_isOpen) B.pre
  have hown : s.vm.findClass RX7 = some m.cls := findClass_of_methodNamed B.named
  have hlocks := B.notSynchronized
  have hS0 : va_S (fun _ => False) s.heap s.heap [] := va_S.rf
  have hl := lv_entry ([.ref (ad 253), .int x1]) (n := 2) (Nat.le_of_ble_eq_true rfl)
  rw [lg_entry_eq]
  generalize (lg_sl ([.ref (ad 253), .int x1]) ++ List.replicate (2 - (lg_sl ([.ref (ad 253), .int x1])).length) Slot.unset).toArray = ls at hl ⊢
  have hl : lv_has ls 2 [(0, .ref (ad 253)), (1, .int (x1))] := hl
  have hsp := (s_X7_isOpen.eq_1 q o x1).symm
  refine lv_aload_n hx hb dX7_isOpen_0 rfl (lv_at hl 0 rfl) ?_
  refine lv_iload_n hx hb dX7_isOpen_1 rfl (lv_at hl 1 rfl) ?_
  refine vx_callv (vx_runV (As := [.int (x1)]) (rest := []) ⟨hx, hb, hml, hown, hts⟩ (c_X7_needTruck l hl0 dC Z A ad k q pm o g x1) (cwV 1 hts gX7_isOpen_X7_needTruck rfl rfl rfl (by decide +kernel) ⟨Nat.le_of_ble_eq_true rfl, Nat.le_of_ble_eq_true rfl⟩) (ft_preVg hE (ft_Sm hS0) (fun _ h => h) hP (ci := 9) (q0 := 253) rfl (ft_get' (by decide) rfl)) rfl rfl hl.1 rfl (lv_room (Nat.le_of_ble_eq_true rfl)) dX7_isOpen_2 ⟨Nat.le_of_ble_eq_true rfl, Nat.le_of_ble_eq_true rfl⟩) hS0 (fun _ _ h => h) (fun _ h => h) (fun _ _ h => h) (fun E ce q9 u t H1 locs1 ht hvm hu hB hz1 hk1 hS1 hc1 hc2 hc3 => ?_) (fun u t H1 locs1 ht hvm hw hB hz1 hk1 hS1 => ?_)
  · exact vx_out (fun x hx9 => (hnt x hx9).elim) hlocks hc1 hc2 hc3 (fun t2 ht2 hv2 => ⟨(), trivial, ft_xb_err hB hsp, ft_Fx hS1 (by rw [ht2]; exact Nat.le_refl _) (fun q _ => by rw [ht2])⟩) (fun z hz => (hS1.2.2 z hz).elim) (by decide) (by decide)
  replace hsp := ft_xb_ok hw hsp
  have hP := ft_keep hP hk1
  have hw_2 := hw
  have hS0 := hS1
  clear hS1
  generalize H1 = H at hP hS0 ⊢
  refine lv_aload_n hx hb dX7_isOpen_5 rfl (lv_at hl 0 rfl) ?_
  refine va_get (D := dC) (ci := 9) (v := .ref (ft_sq ad 0 0)) (C := RX7) (T := TX7) (N := 9) hx hb hts (by decide +kernel) hown hK.1 hP 253 (ft_get' (by decide) rfl) rfl 0 (by decide) (hts (.fieldLink RX7 12 "FoodTruckRota" "square" "LFoodTruckRota$Square;") (by decide +kernel)) (fun _ h9 => h9) rfl dX7_isOpen_6 ?_
  refine lv_iload_n hx hb dX7_isOpen_9 rfl (lv_at hl 1 rfl) ?_
  refine vp_callSi (va_Run.run (va_runV (As := [.int (x1)]) (rest := []) ⟨hx, hb, hml, hown, hts⟩ (c_X4_pitchToday l dC (ft_sq ad 0) k (q 0) x1) (cwV 1 hts gX7_isOpen_X4_pitchToday rfl rfl rfl (by decide +kernel) ⟨Nat.le_of_ble_eq_true rfl, Nat.le_of_ble_eq_true rfl⟩) (ft_preVc hK (ft_R_S hP (s := 0) (by decide)) (ci := 6) rfl (ft_get' (by decide) rfl)) rfl rfl hl.1 rfl (lv_room (Nat.le_of_ble_eq_true rfl)) dX7_isOpen_10 ⟨Nat.le_of_ble_eq_true rfl, Nat.le_of_ble_eq_true rfl⟩)) (fun z hz => ?_)
  subst hz
  refine lv_iconst (v := (-1)) hx hb dX7_isOpen_13 (by decide) ?_
  refine lv_icmp_eq (tgt := 21) hx hb dX7_isOpen_14 (by decide) (fun c_14 => ?_) (fun c_14 => ?_)
  · replace hsp := (if_pos c_14).symm.trans hsp
    refine lv_iconst (v := 0) hx hb dX7_isOpen_21 (by decide) ?_
    refine vx_ret ?_
    refine W.widen (k := 1) (n := 6) (by decide) (by decide) ?_
    exact W.zret (v := 0) hx hb hr (rfl) (fun t ht hW => ⟨⟨0, (), rfl, hsp.symm, trivial⟩, ft_Fx hS0 (by rw [ht]; exact Nat.le_refl _) (fun q _ => by rw [ht])⟩) (fun z hz => (hS0.2.2 z hz).elim) dX7_isOpen_22
  · replace hsp := (if_neg c_14).symm.trans hsp
    refine lv_iconst (v := 1) hx hb dX7_isOpen_17 (by decide) ?_
    refine lv_goto (tgt := 22) hx hb dX7_isOpen_18 (by decide) ?_
    refine vx_ret ?_
    refine W.widen (k := 1) (n := 6) (by decide) (by decide) ?_
    exact W.zret (v := 1) hx hb hr (rfl) (fun t ht hW => ⟨⟨1, (), rfl, hsp.symm, trivial⟩, ft_Fx hS0 (by rw [ht]; exact Nat.le_refl _) (fun q _ => by rw [ht])⟩) (fun z hz => (hS0.2.2 z hz).elim) dX7_isOpen_22

def s_X7_firstFreeDay (q : Nat → Nat → Int32) (o : Nat → Int32) (x1 : Int32) : Except String Int32 := ft_xb (s_X7_needTruck q o x1) (fun _ => ft_xb (s_X7_needFound (s_X4_freeDayFor (q 0) x1)) (fun z_13 => .ok z_13))
set_option maxHeartbeats 4000000 in
set_option maxRecDepth 100000 in
theorem c_X7_firstFreeDay (l : Launch) (hl0 : l.stackTraces = false) (dC : va_G) (Z : Nat → Nat → Nat) (A : Nat → Prop) (ad : Nat → Nat) (k : Nat → ClassId) (q : Nat → Nat → Int32) (pm : Nat → Nat) (o : Nat → Int32) (g : ft_G) (x1 : Int32): vx_Met l yX7_firstFreeDay wsX7_firstFreeDay ({ frames := 7, cells := 2, slots := 12, locals := 111 }) (ft_Pe dC k Z A [.ref (ad 253), .int x1] (ft_WR ad k Z q pm o g)) (ft_Qx (s_X7_firstFreeDay q o x1)) (ft_Xx (s_X7_firstFreeDay q o x1)) 2 12 (fun _ => False) := by
  refine vx_ofW (cc := cX7_firstFreeDay) (maxL := 2) (ret := (some .int)) (by decide) rfl ?_
  intro p e s m args below meth c s₁ B hml hnt hv
  obtain ⟨hargs, hP, hE⟩ := hv
  have hK := hE.1
  subst hargs
  have hx := B.exec
  have hb := B.bytes
  have hr := B.returns
  have hts := atoms_spec (ws := wsX7_firstFreeDay) B.pre
  have hown : s.vm.findClass RX7 = some m.cls := findClass_of_methodNamed B.named
  have hlocks := B.notSynchronized
  have hS0 : va_S (fun _ => False) s.heap s.heap [] := va_S.rf
  have hl := lv_entry ([.ref (ad 253), .int x1]) (n := 2) (Nat.le_of_ble_eq_true rfl)
  rw [lg_entry_eq]
  generalize (lg_sl ([.ref (ad 253), .int x1]) ++ List.replicate (2 - (lg_sl ([.ref (ad 253), .int x1])).length) Slot.unset).toArray = ls at hl ⊢
  have hl : lv_has ls 2 [(0, .ref (ad 253)), (1, .int (x1))] := hl
  have hsp := (s_X7_firstFreeDay.eq_1 q o x1).symm
  refine lv_aload_n hx hb dX7_firstFreeDay_0 rfl (lv_at hl 0 rfl) ?_
  refine lv_iload_n hx hb dX7_firstFreeDay_1 rfl (lv_at hl 1 rfl) ?_
  refine vx_callv (vx_runV (As := [.int (x1)]) (rest := []) ⟨hx, hb, hml, hown, hts⟩ (c_X7_needTruck l hl0 dC Z A ad k q pm o g x1) (cwV 1 hts gX7_firstFreeDay_X7_needTruck rfl rfl rfl (by decide +kernel) ⟨Nat.le_of_ble_eq_true rfl, Nat.le_of_ble_eq_true rfl⟩) (ft_preVg hE (ft_Sm hS0) (fun _ h => h) hP (ci := 9) (q0 := 253) rfl (ft_get' (by decide) rfl)) rfl rfl hl.1 rfl (lv_room (Nat.le_of_ble_eq_true rfl)) dX7_firstFreeDay_2 ⟨Nat.le_of_ble_eq_true rfl, Nat.le_of_ble_eq_true rfl⟩) hS0 (fun _ _ h => h) (fun _ h => h) (fun _ _ h => h) (fun E ce q9 u t H1 locs1 ht hvm hu hB hz1 hk1 hS1 hc1 hc2 hc3 => ?_) (fun u t H1 locs1 ht hvm hw hB hz1 hk1 hS1 => ?_)
  · exact vx_out (fun x hx9 => (hnt x hx9).elim) hlocks hc1 hc2 hc3 (fun t2 ht2 hv2 => ⟨(), trivial, ft_xb_err hB hsp, ft_Fx hS1 (by rw [ht2]; exact Nat.le_refl _) (fun q _ => by rw [ht2])⟩) (fun z hz => (hS1.2.2 z hz).elim) (by decide) (by decide)
  replace hsp := ft_xb_ok hw hsp
  have hP := ft_keep hP hk1
  have hw_2 := hw
  have hS0 := hS1
  clear hS1
  generalize H1 = H at hP hS0 ⊢
  refine lv_aload_n hx hb dX7_firstFreeDay_5 rfl (lv_at hl 0 rfl) ?_
  refine va_get (D := dC) (ci := 9) (v := .ref (ft_sq ad 0 0)) (C := RX7) (T := TX7) (N := 9) hx hb hts (by decide +kernel) hown hK.1 hP 253 (ft_get' (by decide) rfl) rfl 0 (by decide) (hts (.fieldLink RX7 12 "FoodTruckRota" "square" "LFoodTruckRota$Square;") (by decide +kernel)) (fun _ h9 => h9) rfl dX7_firstFreeDay_6 ?_
  refine lv_iload_n hx hb dX7_firstFreeDay_9 rfl (lv_at hl 1 rfl) ?_
  refine vp_callSi (va_Run.run (va_runV (As := [.int (x1)]) (rest := []) ⟨hx, hb, hml, hown, hts⟩ (c_X4_freeDayFor l dC (ft_sq ad 0) k (q 0) x1) (cwV 1 hts gX7_firstFreeDay_X4_freeDayFor rfl rfl rfl (by decide +kernel) ⟨Nat.le_of_ble_eq_true rfl, Nat.le_of_ble_eq_true rfl⟩) (ft_preVc hK (ft_R_S hP (s := 0) (by decide)) (ci := 6) rfl (ft_get' (by decide) rfl)) rfl rfl hl.1 rfl (lv_room (Nat.le_of_ble_eq_true rfl)) dX7_firstFreeDay_10 ⟨Nat.le_of_ble_eq_true rfl, Nat.le_of_ble_eq_true rfl⟩)) (fun z hz => ?_)
  subst hz
  refine vx_calli (vx_runS (As := [.int ((s_X4_freeDayFor (q 0) x1))]) (rest := []) ⟨hx, hb, hml, hown, hts⟩ (c_X7_needFound l hl0 dC Z A k (s_X4_freeDayFor (q 0) x1)) (va_cwS 1 hts gX7_firstFreeDay_X7_needFound rfl rfl rfl (by decide +kernel) ⟨Nat.le_of_ble_eq_true rfl, Nat.le_of_ble_eq_true rfl⟩) (ft_preSo hE (ft_Sm hS0) (fun _ h => h)) rfl rfl hl.1 rfl (lv_room (Nat.le_of_ble_eq_true rfl)) dX7_firstFreeDay_13 ⟨Nat.le_of_ble_eq_true rfl, Nat.le_of_ble_eq_true rfl⟩) hS0 (fun _ _ h => h) (fun _ h => h) (fun _ _ h => h) (fun E ce q9 u t H1 locs1 ht hvm hu hB hz1 hk1 hS1 hc1 hc2 hc3 => ?_) (fun z_13 u t H1 locs1 ht hvm hw hB hz1 hk1 hS1 => ?_)
  · exact vx_out (fun x hx9 => (hnt x hx9).elim) hlocks hc1 hc2 hc3 (fun t2 ht2 hv2 => ⟨(), trivial, ft_xb_err hB hsp, ft_Fx hS1 (by rw [ht2]; exact Nat.le_refl _) (fun q _ => by rw [ht2])⟩) (fun z hz => (hS1.2.2 z hz).elim) (by decide) (by decide)
  replace hsp := ft_xb_ok hw hsp
  have hP := ft_keep hP hk1
  have hw_13 := hw
  have hS0 := hS1
  clear hS1
  generalize H1 = H at hP hS0 ⊢
  refine vx_ret ?_
  refine W.widen (k := 2) (n := 12) (by decide) (by decide) ?_
  exact W.iret (v := z_13) hx hb hr (fun t ht hW => ⟨⟨z_13, (), rfl, hsp.symm, trivial⟩, ft_Fx hS0 (by rw [ht]; exact Nat.le_refl _) (fun q _ => by rw [ht])⟩) (fun z hz => (hS0.2.2 z hz).elim) dX7_firstFreeDay_16

def s_X7_firstFreePitch (q : Nat → Nat → Int32) (o : Nat → Int32) (x1 : Int32) : Except String Int32 := ft_xb (s_X7_needWeekday x1) (fun _ => ft_xb (s_X7_needFound (s_X4_pitchHeldBy (q 0) (-1) x1)) (fun z_13 => .ok z_13))
set_option maxHeartbeats 4000000 in
set_option maxRecDepth 100000 in
theorem c_X7_firstFreePitch (l : Launch) (hl0 : l.stackTraces = false) (dC : va_G) (Z : Nat → Nat → Nat) (A : Nat → Prop) (ad : Nat → Nat) (k : Nat → ClassId) (q : Nat → Nat → Int32) (pm : Nat → Nat) (o : Nat → Int32) (g : ft_G) (x1 : Int32): vx_Met l yX7_firstFreePitch wsX7_firstFreePitch ({ frames := 7, cells := 2, slots := 12, locals := 110 }) (ft_Pe dC k Z A [.ref (ad 253), .int x1] (ft_WR ad k Z q pm o g)) (ft_Qx (s_X7_firstFreePitch q o x1)) (ft_Xx (s_X7_firstFreePitch q o x1)) 2 12 (fun _ => False) := by
  refine vx_ofW (cc := cX7_firstFreePitch) (maxL := 2) (ret := (some .int)) (by decide) rfl ?_
  intro p e s m args below meth c s₁ B hml hnt hv
  obtain ⟨hargs, hP, hE⟩ := hv
  have hK := hE.1
  subst hargs
  have hx := B.exec
  have hb := B.bytes
  have hr := B.returns
  have hts := atoms_spec (ws := wsX7_firstFreePitch) B.pre
  have hown : s.vm.findClass RX7 = some m.cls := findClass_of_methodNamed B.named
  have hlocks := B.notSynchronized
  have hS0 : va_S (fun _ => False) s.heap s.heap [] := va_S.rf
  have hl := lv_entry ([.ref (ad 253), .int x1]) (n := 2) (Nat.le_of_ble_eq_true rfl)
  rw [lg_entry_eq]
  generalize (lg_sl ([.ref (ad 253), .int x1]) ++ List.replicate (2 - (lg_sl ([.ref (ad 253), .int x1])).length) Slot.unset).toArray = ls at hl ⊢
  have hl : lv_has ls 2 [(0, .ref (ad 253)), (1, .int (x1))] := hl
  have hsp := (s_X7_firstFreePitch.eq_1 q o x1).symm
  refine lv_iload_n hx hb dX7_firstFreePitch_0 rfl (lv_at hl 1 rfl) ?_
  refine vx_callv (vx_runS (As := [.int (x1)]) (rest := []) ⟨hx, hb, hml, hown, hts⟩ (c_X7_needWeekday l hl0 dC Z A k x1) (va_cwS 1 hts gX7_firstFreePitch_X7_needWeekday rfl rfl rfl (by decide +kernel) ⟨Nat.le_of_ble_eq_true rfl, Nat.le_of_ble_eq_true rfl⟩) (ft_preSo hE (ft_Sm hS0) (fun _ h => h)) rfl rfl hl.1 rfl (lv_room (Nat.le_of_ble_eq_true rfl)) dX7_firstFreePitch_1 ⟨Nat.le_of_ble_eq_true rfl, Nat.le_of_ble_eq_true rfl⟩) hS0 (fun _ _ h => h) (fun _ h => h) (fun _ _ h => h) (fun E ce q9 u t H1 locs1 ht hvm hu hB hz1 hk1 hS1 hc1 hc2 hc3 => ?_) (fun u t H1 locs1 ht hvm hw hB hz1 hk1 hS1 => ?_)
  · exact vx_out (fun x hx9 => (hnt x hx9).elim) hlocks hc1 hc2 hc3 (fun t2 ht2 hv2 => ⟨(), trivial, ft_xb_err hB hsp, ft_Fx hS1 (by rw [ht2]; exact Nat.le_refl _) (fun q _ => by rw [ht2])⟩) (fun z hz => (hS1.2.2 z hz).elim) (by decide) (by decide)
  replace hsp := ft_xb_ok hw hsp
  have hP := ft_keep hP hk1
  have hw_1 := hw
  have hS0 := hS1
  clear hS1
  generalize H1 = H at hP hS0 ⊢
  refine lv_aload_n hx hb dX7_firstFreePitch_4 rfl (lv_at hl 0 rfl) ?_
  refine va_get (D := dC) (ci := 9) (v := .ref (ft_sq ad 0 0)) (C := RX7) (T := TX7) (N := 9) hx hb hts (by decide +kernel) hown hK.1 hP 253 (ft_get' (by decide) rfl) rfl 0 (by decide) (hts (.fieldLink RX7 12 "FoodTruckRota" "square" "LFoodTruckRota$Square;") (by decide +kernel)) (fun _ h9 => h9) rfl dX7_firstFreePitch_5 ?_
  refine lv_iconst (v := (-1)) hx hb dX7_firstFreePitch_8 (by decide) ?_
  refine lv_iload_n hx hb dX7_firstFreePitch_9 rfl (lv_at hl 1 rfl) ?_
  refine vp_callSi (va_Run.run (va_runV (As := [.int ((-1)), .int (x1)]) (rest := []) ⟨hx, hb, hml, hown, hts⟩ (c_X4_pitchHeldBy l dC (ft_sq ad 0) k (q 0) (-1) x1) (cwV 2 hts gX7_firstFreePitch_X4_pitchHeldBy rfl rfl rfl (by decide +kernel) ⟨Nat.le_of_ble_eq_true rfl, Nat.le_of_ble_eq_true rfl⟩) (ft_preVc hK (ft_R_S hP (s := 0) (by decide)) (ci := 6) rfl (ft_get' (by decide) rfl)) rfl rfl hl.1 rfl (lv_room (Nat.le_of_ble_eq_true rfl)) dX7_firstFreePitch_10 ⟨Nat.le_of_ble_eq_true rfl, Nat.le_of_ble_eq_true rfl⟩)) (fun z hz => ?_)
  subst hz
  refine vx_calli (vx_runS (As := [.int ((s_X4_pitchHeldBy (q 0) (-1) x1))]) (rest := []) ⟨hx, hb, hml, hown, hts⟩ (c_X7_needFound l hl0 dC Z A k (s_X4_pitchHeldBy (q 0) (-1) x1)) (va_cwS 1 hts gX7_firstFreePitch_X7_needFound rfl rfl rfl (by decide +kernel) ⟨Nat.le_of_ble_eq_true rfl, Nat.le_of_ble_eq_true rfl⟩) (ft_preSo hE (ft_Sm hS0) (fun _ h => h)) rfl rfl hl.1 rfl (lv_room (Nat.le_of_ble_eq_true rfl)) dX7_firstFreePitch_13 ⟨Nat.le_of_ble_eq_true rfl, Nat.le_of_ble_eq_true rfl⟩) hS0 (fun _ _ h => h) (fun _ h => h) (fun _ _ h => h) (fun E ce q9 u t H1 locs1 ht hvm hu hB hz1 hk1 hS1 hc1 hc2 hc3 => ?_) (fun z_13 u t H1 locs1 ht hvm hw hB hz1 hk1 hS1 => ?_)
  · exact vx_out (fun x hx9 => (hnt x hx9).elim) hlocks hc1 hc2 hc3 (fun t2 ht2 hv2 => ⟨(), trivial, ft_xb_err hB hsp, ft_Fx hS1 (by rw [ht2]; exact Nat.le_refl _) (fun q _ => by rw [ht2])⟩) (fun z hz => (hS1.2.2 z hz).elim) (by decide) (by decide)
  replace hsp := ft_xb_ok hw hsp
  have hP := ft_keep hP hk1
  have hw_13 := hw
  have hS0 := hS1
  clear hS1
  generalize H1 = H at hP hS0 ⊢
  refine vx_ret ?_
  refine W.widen (k := 2) (n := 12) (by decide) (by decide) ?_
  exact W.iret (v := z_13) hx hb hr (fun t ht hW => ⟨⟨z_13, (), rfl, hsp.symm, trivial⟩, ft_Fx hS0 (by rw [ht]; exact Nat.le_refl _) (fun q _ => by rw [ht])⟩) (fun z hz => (hS0.2.2 z hz).elim) dX7_firstFreePitch_16

def s_X7_queueLength (q : Nat → Nat → Int32) (o : Nat → Int32) (x1 : Int32) : Except String Int32 := ft_xb (s_X7_needTruck q o x1) (fun _ => .ok (q 0 (51 + 17 * (tn x1) + 2)))
set_option maxHeartbeats 4000000 in
set_option maxRecDepth 100000 in
theorem c_X7_queueLength (l : Launch) (hl0 : l.stackTraces = false) (dC : va_G) (Z : Nat → Nat → Nat) (A : Nat → Prop) (ad : Nat → Nat) (k : Nat → ClassId) (q : Nat → Nat → Int32) (pm : Nat → Nat) (o : Nat → Int32) (g : ft_G) (x1 : Int32): vx_Met l yX7_queueLength wsX7_queueLength ({ frames := 7, cells := 1, slots := 6, locals := 111 }) (ft_Pe dC k Z A [.ref (ad 253), .int x1] (ft_WR ad k Z q pm o g)) (ft_Qx (s_X7_queueLength q o x1)) (ft_Xx (s_X7_queueLength q o x1)) 1 6 (fun _ => False) := by
  refine vx_ofW (cc := cX7_queueLength) (maxL := 2) (ret := (some .int)) (by decide) rfl ?_
  intro p e s m args below meth c s₁ B hml hnt hv
  obtain ⟨hargs, hP, hE⟩ := hv
  have hK := hE.1
  subst hargs
  have hx := B.exec
  have hb := B.bytes
  have hr := B.returns
  have hts := atoms_spec (ws := wsX7_queueLength) B.pre
  have hown : s.vm.findClass RX7 = some m.cls := findClass_of_methodNamed B.named
  have hlocks := B.notSynchronized
  have hS0 : va_S (fun _ => False) s.heap s.heap [] := va_S.rf
  have hl := lv_entry ([.ref (ad 253), .int x1]) (n := 2) (Nat.le_of_ble_eq_true rfl)
  rw [lg_entry_eq]
  generalize (lg_sl ([.ref (ad 253), .int x1]) ++ List.replicate (2 - (lg_sl ([.ref (ad 253), .int x1])).length) Slot.unset).toArray = ls at hl ⊢
  have hl : lv_has ls 2 [(0, .ref (ad 253)), (1, .int (x1))] := hl
  have hsp := (s_X7_queueLength.eq_1 q o x1).symm
  refine lv_aload_n hx hb dX7_queueLength_0 rfl (lv_at hl 0 rfl) ?_
  refine lv_iload_n hx hb dX7_queueLength_1 rfl (lv_at hl 1 rfl) ?_
  refine vx_callv (vx_runV (As := [.int (x1)]) (rest := []) ⟨hx, hb, hml, hown, hts⟩ (c_X7_needTruck l hl0 dC Z A ad k q pm o g x1) (cwV 1 hts gX7_queueLength_X7_needTruck rfl rfl rfl (by decide +kernel) ⟨Nat.le_of_ble_eq_true rfl, Nat.le_of_ble_eq_true rfl⟩) (ft_preVg hE (ft_Sm hS0) (fun _ h => h) hP (ci := 9) (q0 := 253) rfl (ft_get' (by decide) rfl)) rfl rfl hl.1 rfl (lv_room (Nat.le_of_ble_eq_true rfl)) dX7_queueLength_2 ⟨Nat.le_of_ble_eq_true rfl, Nat.le_of_ble_eq_true rfl⟩) hS0 (fun _ _ h => h) (fun _ h => h) (fun _ _ h => h) (fun E ce q9 u t H1 locs1 ht hvm hu hB hz1 hk1 hS1 hc1 hc2 hc3 => ?_) (fun u t H1 locs1 ht hvm hw hB hz1 hk1 hS1 => ?_)
  · exact vx_out (fun x hx9 => (hnt x hx9).elim) hlocks hc1 hc2 hc3 (fun t2 ht2 hv2 => ⟨(), trivial, ft_xb_err hB hsp, ft_Fx hS1 (by rw [ht2]; exact Nat.le_refl _) (fun q _ => by rw [ht2])⟩) (fun z hz => (hS1.2.2 z hz).elim) (by decide) (by decide)
  replace hsp := ft_xb_ok hw hsp
  have hP := ft_keep hP hk1
  have hw_2 := hw
  have hS0 := hS1
  clear hS1
  generalize H1 = H at hP hS0 ⊢
  refine lv_aload_n hx hb dX7_queueLength_5 rfl (lv_at hl 0 rfl) ?_
  refine va_get (D := dC) (ci := 9) (v := .ref (ft_sq ad 0 0)) (C := RX7) (T := TX7) (N := 9) hx hb hts (by decide +kernel) hown hK.1 hP 253 (ft_get' (by decide) rfl) rfl 0 (by decide) (hts (.fieldLink RX7 12 "FoodTruckRota" "square" "LFoodTruckRota$Square;") (by decide +kernel)) (fun _ h9 => h9) rfl dX7_queueLength_6 ?_
  refine va_getN (D := dC) (ci := 6) (v := .ref (ft_sq ad 0 1)) (C := RX4) (T := TX4) (N := 12) hx hb hts (by decide +kernel) hown hK.1 (ft_R_S hP (s := 0) (by decide)) 0 (ft_get' (by decide) rfl) rfl 0 (by decide) (ft_nl hK.2 8 rfl) (fun _ h9 => h9) rfl dX7_queueLength_9 ?_
  refine lv_iload_n hx hb dX7_queueLength_12 rfl (lv_at hl 1 rfl) ?_
  have h_13 : vp_in x1 6 := by first | assumption | exact need_in (by assumption) | exact dish_in (by assumption)
  refine va_aldq (C := RX6) hx hb hK.1 (ft_R_S hP (s := 0) (by decide)) 1 1 (ft_get' (by decide) rfl) rfl h_13 dX7_queueLength_13 ?_
  refine W.eq (g2 := F0 m 14 ls [.ref (ft_at (ft_sq ad 0) (tn x1) 0)]) rfl ?_
  refine va_getN (D := dC) (ci := 8) (v := .int (q 0 (51 + 17 * (tn x1) + 2))) (C := RX6) (T := TX6) (N := 6) hx hb hts (by decide +kernel) hown hK.1 (ft_S_P (ft_R_S hP (s := 0) (by decide)) (ft_tn h_13)) 0 (ft_get' (by decide) rfl) rfl 2 (by decide) (ft_nl hK.2 1 rfl) (fun _ h9 => h9) rfl dX7_queueLength_14 ?_
  refine vx_ret ?_
  refine W.widen (k := 1) (n := 6) (by decide) (by decide) ?_
  exact W.iret (v := q 0 (51 + 17 * (tn x1) + 2)) hx hb hr (fun t ht hW => ⟨⟨q 0 (51 + 17 * (tn x1) + 2), (), rfl, hsp.symm, trivial⟩, ft_Fx hS0 (by rw [ht]; exact Nat.le_refl _) (fun q _ => by rw [ht])⟩) (fun z hz => (hS0.2.2 z hz).elim) dX7_queueLength_17

def s_X7_wantedDish (q : Nat → Nat → Int32) (o : Nat → Int32) (x1 : Int32) (x2 : Int32) : Except String Int32 := ft_xb (s_X7_needTruck q o x1) (fun _ => ft_xb (s_X7_needFound (s_X6_wishAt (q 0) (51 + 17 * (tn x1)) x2)) (fun z_18 => .ok z_18))
set_option maxHeartbeats 4000000 in
set_option maxRecDepth 100000 in
theorem c_X7_wantedDish (l : Launch) (hl0 : l.stackTraces = false) (dC : va_G) (Z : Nat → Nat → Nat) (A : Nat → Prop) (ad : Nat → Nat) (k : Nat → ClassId) (q : Nat → Nat → Int32) (pm : Nat → Nat) (o : Nat → Int32) (g : ft_G) (x1 : Int32) (x2 : Int32): vx_Met l yX7_wantedDish wsX7_wantedDish ({ frames := 7, cells := 2, slots := 12, locals := 111 }) (ft_Pe dC k Z A [.ref (ad 253), .int x1, .int x2] (ft_WR ad k Z q pm o g)) (ft_Qx (s_X7_wantedDish q o x1 x2)) (ft_Xx (s_X7_wantedDish q o x1 x2)) 2 12 (fun _ => False) := by
  refine vx_ofW (cc := cX7_wantedDish) (maxL := 3) (ret := (some .int)) (by decide) rfl ?_
  intro p e s m args below meth c s₁ B hml hnt hv
  obtain ⟨hargs, hP, hE⟩ := hv
  have hK := hE.1
  subst hargs
  have hx := B.exec
  have hb := B.bytes
  have hr := B.returns
  have hts := atoms_spec (ws := wsX7_wantedDish) B.pre
  have hown : s.vm.findClass RX7 = some m.cls := findClass_of_methodNamed B.named
  have hlocks := B.notSynchronized
  have hS0 : va_S (fun _ => False) s.heap s.heap [] := va_S.rf
  have hl := lv_entry ([.ref (ad 253), .int x1, .int x2]) (n := 3) (Nat.le_of_ble_eq_true rfl)
  rw [lg_entry_eq]
  generalize (lg_sl ([.ref (ad 253), .int x1, .int x2]) ++ List.replicate (3 - (lg_sl ([.ref (ad 253), .int x1, .int x2])).length) Slot.unset).toArray = ls at hl ⊢
  have hl : lv_has ls 3 [(0, .ref (ad 253)), (1, .int (x1)), (2, .int (x2))] := hl
  have hsp := (s_X7_wantedDish.eq_1 q o x1 x2).symm
  refine lv_aload_n hx hb dX7_wantedDish_0 rfl (lv_at hl 0 rfl) ?_
  refine lv_iload_n hx hb dX7_wantedDish_1 rfl (lv_at hl 1 rfl) ?_
  refine vx_callv (vx_runV (As := [.int (x1)]) (rest := []) ⟨hx, hb, hml, hown, hts⟩ (c_X7_needTruck l hl0 dC Z A ad k q pm o g x1) (cwV 1 hts gX7_wantedDish_X7_needTruck rfl rfl rfl (by decide +kernel) ⟨Nat.le_of_ble_eq_true rfl, Nat.le_of_ble_eq_true rfl⟩) (ft_preVg hE (ft_Sm hS0) (fun _ h => h) hP (ci := 9) (q0 := 253) rfl (ft_get' (by decide) rfl)) rfl rfl hl.1 rfl (lv_room (Nat.le_of_ble_eq_true rfl)) dX7_wantedDish_2 ⟨Nat.le_of_ble_eq_true rfl, Nat.le_of_ble_eq_true rfl⟩) hS0 (fun _ _ h => h) (fun _ h => h) (fun _ _ h => h) (fun E ce q9 u t H1 locs1 ht hvm hu hB hz1 hk1 hS1 hc1 hc2 hc3 => ?_) (fun u t H1 locs1 ht hvm hw hB hz1 hk1 hS1 => ?_)
  · exact vx_out (fun x hx9 => (hnt x hx9).elim) hlocks hc1 hc2 hc3 (fun t2 ht2 hv2 => ⟨(), trivial, ft_xb_err hB hsp, ft_Fx hS1 (by rw [ht2]; exact Nat.le_refl _) (fun q _ => by rw [ht2])⟩) (fun z hz => (hS1.2.2 z hz).elim) (by decide) (by decide)
  replace hsp := ft_xb_ok hw hsp
  have hP := ft_keep hP hk1
  have hw_2 := hw
  have hS0 := hS1
  clear hS1
  generalize H1 = H at hP hS0 ⊢
  refine lv_aload_n hx hb dX7_wantedDish_5 rfl (lv_at hl 0 rfl) ?_
  refine va_get (D := dC) (ci := 9) (v := .ref (ft_sq ad 0 0)) (C := RX7) (T := TX7) (N := 9) hx hb hts (by decide +kernel) hown hK.1 hP 253 (ft_get' (by decide) rfl) rfl 0 (by decide) (hts (.fieldLink RX7 12 "FoodTruckRota" "square" "LFoodTruckRota$Square;") (by decide +kernel)) (fun _ h9 => h9) rfl dX7_wantedDish_6 ?_
  refine va_getN (D := dC) (ci := 6) (v := .ref (ft_sq ad 0 1)) (C := RX4) (T := TX4) (N := 12) hx hb hts (by decide +kernel) hown hK.1 (ft_R_S hP (s := 0) (by decide)) 0 (ft_get' (by decide) rfl) rfl 0 (by decide) (ft_nl hK.2 8 rfl) (fun _ h9 => h9) rfl dX7_wantedDish_9 ?_
  refine lv_iload_n hx hb dX7_wantedDish_12 rfl (lv_at hl 1 rfl) ?_
  have h_13 : vp_in x1 6 := by first | assumption | exact need_in (by assumption) | exact dish_in (by assumption)
  refine va_aldq (C := RX6) hx hb hK.1 (ft_R_S hP (s := 0) (by decide)) 1 1 (ft_get' (by decide) rfl) rfl h_13 dX7_wantedDish_13 ?_
  refine W.eq (g2 := F0 m 14 ls [.ref (ft_at (ft_sq ad 0) (tn x1) 0)]) rfl ?_
  refine lv_iload_n hx hb dX7_wantedDish_14 rfl (lv_at hl 2 rfl) ?_
  refine vp_callSi (va_Run.run (va_runV (As := [.int (x2)]) (rest := []) ⟨hx, hb, hml, hown, hts⟩ (c_X6_wishAt l dC (ft_at (ft_sq ad 0) (tn x1)) k (q 0) (51 + 17 * (tn x1)) x2) (cwV 1 hts gX7_wantedDish_X6_wishAt rfl rfl rfl (by decide +kernel) ⟨Nat.le_of_ble_eq_true rfl, Nat.le_of_ble_eq_true rfl⟩) (ft_preVc hK (ft_S_P (ft_R_S hP (s := 0) (by decide)) (ft_tn h_13)) (ci := 8) rfl (ft_get' (by decide) rfl)) rfl rfl hl.1 rfl (lv_room (Nat.le_of_ble_eq_true rfl)) dX7_wantedDish_15 ⟨Nat.le_of_ble_eq_true rfl, Nat.le_of_ble_eq_true rfl⟩)) (fun z hz => ?_)
  subst hz
  refine vx_calli (vx_runS (As := [.int ((s_X6_wishAt (q 0) (51 + 17 * (tn x1)) x2))]) (rest := []) ⟨hx, hb, hml, hown, hts⟩ (c_X7_needFound l hl0 dC Z A k (s_X6_wishAt (q 0) (51 + 17 * (tn x1)) x2)) (va_cwS 1 hts gX7_wantedDish_X7_needFound rfl rfl rfl (by decide +kernel) ⟨Nat.le_of_ble_eq_true rfl, Nat.le_of_ble_eq_true rfl⟩) (ft_preSo hE (ft_Sm hS0) (fun _ h => h)) rfl rfl hl.1 rfl (lv_room (Nat.le_of_ble_eq_true rfl)) dX7_wantedDish_18 ⟨Nat.le_of_ble_eq_true rfl, Nat.le_of_ble_eq_true rfl⟩) hS0 (fun _ _ h => h) (fun _ h => h) (fun _ _ h => h) (fun E ce q9 u t H1 locs1 ht hvm hu hB hz1 hk1 hS1 hc1 hc2 hc3 => ?_) (fun z_18 u t H1 locs1 ht hvm hw hB hz1 hk1 hS1 => ?_)
  · exact vx_out (fun x hx9 => (hnt x hx9).elim) hlocks hc1 hc2 hc3 (fun t2 ht2 hv2 => ⟨(), trivial, ft_xb_err hB hsp, ft_Fx hS1 (by rw [ht2]; exact Nat.le_refl _) (fun q _ => by rw [ht2])⟩) (fun z hz => (hS1.2.2 z hz).elim) (by decide) (by decide)
  replace hsp := ft_xb_ok hw hsp
  have hP := ft_keep hP hk1
  have hw_18 := hw
  have hS0 := hS1
  clear hS1
  generalize H1 = H at hP hS0 ⊢
  refine vx_ret ?_
  refine W.widen (k := 2) (n := 12) (by decide) (by decide) ?_
  exact W.iret (v := z_18) hx hb hr (fun t ht hW => ⟨⟨z_18, (), rfl, hsp.symm, trivial⟩, ft_Fx hS0 (by rw [ht]; exact Nat.le_refl _) (fun q _ => by rw [ht])⟩) (fun z hz => (hS0.2.2 z hz).elim) dX7_wantedDish_21

def s_X7_minutesLeft (q : Nat → Nat → Int32) (o : Nat → Int32) (x1 : Int32) : Except String Int32 := ft_xb (s_X7_needTruck q o x1) (fun _ => .ok (q 0 (51 + 17 * (tn x1) + 1)))
set_option maxHeartbeats 4000000 in
set_option maxRecDepth 100000 in
theorem c_X7_minutesLeft (l : Launch) (hl0 : l.stackTraces = false) (dC : va_G) (Z : Nat → Nat → Nat) (A : Nat → Prop) (ad : Nat → Nat) (k : Nat → ClassId) (q : Nat → Nat → Int32) (pm : Nat → Nat) (o : Nat → Int32) (g : ft_G) (x1 : Int32): vx_Met l yX7_minutesLeft wsX7_minutesLeft ({ frames := 7, cells := 1, slots := 6, locals := 111 }) (ft_Pe dC k Z A [.ref (ad 253), .int x1] (ft_WR ad k Z q pm o g)) (ft_Qx (s_X7_minutesLeft q o x1)) (ft_Xx (s_X7_minutesLeft q o x1)) 1 6 (fun _ => False) := by
  refine vx_ofW (cc := cX7_minutesLeft) (maxL := 2) (ret := (some .int)) (by decide) rfl ?_
  intro p e s m args below meth c s₁ B hml hnt hv
  obtain ⟨hargs, hP, hE⟩ := hv
  have hK := hE.1
  subst hargs
  have hx := B.exec
  have hb := B.bytes
  have hr := B.returns
  have hts := atoms_spec (ws := wsX7_minutesLeft) B.pre
  have hown : s.vm.findClass RX7 = some m.cls := findClass_of_methodNamed B.named
  have hlocks := B.notSynchronized
  have hS0 : va_S (fun _ => False) s.heap s.heap [] := va_S.rf
  have hl := lv_entry ([.ref (ad 253), .int x1]) (n := 2) (Nat.le_of_ble_eq_true rfl)
  rw [lg_entry_eq]
  generalize (lg_sl ([.ref (ad 253), .int x1]) ++ List.replicate (2 - (lg_sl ([.ref (ad 253), .int x1])).length) Slot.unset).toArray = ls at hl ⊢
  have hl : lv_has ls 2 [(0, .ref (ad 253)), (1, .int (x1))] := hl
  have hsp := (s_X7_minutesLeft.eq_1 q o x1).symm
  refine lv_aload_n hx hb dX7_minutesLeft_0 rfl (lv_at hl 0 rfl) ?_
  refine lv_iload_n hx hb dX7_minutesLeft_1 rfl (lv_at hl 1 rfl) ?_
  refine vx_callv (vx_runV (As := [.int (x1)]) (rest := []) ⟨hx, hb, hml, hown, hts⟩ (c_X7_needTruck l hl0 dC Z A ad k q pm o g x1) (cwV 1 hts gX7_minutesLeft_X7_needTruck rfl rfl rfl (by decide +kernel) ⟨Nat.le_of_ble_eq_true rfl, Nat.le_of_ble_eq_true rfl⟩) (ft_preVg hE (ft_Sm hS0) (fun _ h => h) hP (ci := 9) (q0 := 253) rfl (ft_get' (by decide) rfl)) rfl rfl hl.1 rfl (lv_room (Nat.le_of_ble_eq_true rfl)) dX7_minutesLeft_2 ⟨Nat.le_of_ble_eq_true rfl, Nat.le_of_ble_eq_true rfl⟩) hS0 (fun _ _ h => h) (fun _ h => h) (fun _ _ h => h) (fun E ce q9 u t H1 locs1 ht hvm hu hB hz1 hk1 hS1 hc1 hc2 hc3 => ?_) (fun u t H1 locs1 ht hvm hw hB hz1 hk1 hS1 => ?_)
  · exact vx_out (fun x hx9 => (hnt x hx9).elim) hlocks hc1 hc2 hc3 (fun t2 ht2 hv2 => ⟨(), trivial, ft_xb_err hB hsp, ft_Fx hS1 (by rw [ht2]; exact Nat.le_refl _) (fun q _ => by rw [ht2])⟩) (fun z hz => (hS1.2.2 z hz).elim) (by decide) (by decide)
  replace hsp := ft_xb_ok hw hsp
  have hP := ft_keep hP hk1
  have hw_2 := hw
  have hS0 := hS1
  clear hS1
  generalize H1 = H at hP hS0 ⊢
  refine lv_aload_n hx hb dX7_minutesLeft_5 rfl (lv_at hl 0 rfl) ?_
  refine va_get (D := dC) (ci := 9) (v := .ref (ft_sq ad 0 0)) (C := RX7) (T := TX7) (N := 9) hx hb hts (by decide +kernel) hown hK.1 hP 253 (ft_get' (by decide) rfl) rfl 0 (by decide) (hts (.fieldLink RX7 12 "FoodTruckRota" "square" "LFoodTruckRota$Square;") (by decide +kernel)) (fun _ h9 => h9) rfl dX7_minutesLeft_6 ?_
  refine va_getN (D := dC) (ci := 6) (v := .ref (ft_sq ad 0 1)) (C := RX4) (T := TX4) (N := 12) hx hb hts (by decide +kernel) hown hK.1 (ft_R_S hP (s := 0) (by decide)) 0 (ft_get' (by decide) rfl) rfl 0 (by decide) (ft_nl hK.2 8 rfl) (fun _ h9 => h9) rfl dX7_minutesLeft_9 ?_
  refine lv_iload_n hx hb dX7_minutesLeft_12 rfl (lv_at hl 1 rfl) ?_
  have h_13 : vp_in x1 6 := by first | assumption | exact need_in (by assumption) | exact dish_in (by assumption)
  refine va_aldq (C := RX6) hx hb hK.1 (ft_R_S hP (s := 0) (by decide)) 1 1 (ft_get' (by decide) rfl) rfl h_13 dX7_minutesLeft_13 ?_
  refine W.eq (g2 := F0 m 14 ls [.ref (ft_at (ft_sq ad 0) (tn x1) 0)]) rfl ?_
  refine va_getN (D := dC) (ci := 8) (v := .int (q 0 (51 + 17 * (tn x1) + 1))) (C := RX6) (T := TX6) (N := 6) hx hb hts (by decide +kernel) hown hK.1 (ft_S_P (ft_R_S hP (s := 0) (by decide)) (ft_tn h_13)) 0 (ft_get' (by decide) rfl) rfl 3 (by decide) (ft_nl hK.2 3 rfl) (fun _ h9 => h9) rfl dX7_minutesLeft_14 ?_
  refine vx_ret ?_
  refine W.widen (k := 1) (n := 6) (by decide) (by decide) ?_
  exact W.iret (v := q 0 (51 + 17 * (tn x1) + 1)) hx hb hr (fun t ht hW => ⟨⟨q 0 (51 + 17 * (tn x1) + 1), (), rfl, hsp.symm, trivial⟩, ft_Fx hS0 (by rw [ht]; exact Nat.le_refl _) (fun q _ => by rw [ht])⟩) (fun z hz => (hS0.2.2 z hz).elim) dX7_minutesLeft_17

def s_X7_queueTime (q : Nat → Nat → Int32) (o : Nat → Int32) (x1 : Int32) : Except String Int32 := ft_xb (s_X7_needTruck q o x1) (fun _ => .ok (s_X6_minutesForQueue (q 0) (51 + 17 * (tn x1))))
set_option maxHeartbeats 4000000 in
set_option maxRecDepth 100000 in
theorem c_X7_queueTime (l : Launch) (hl0 : l.stackTraces = false) (dC : va_G) (Z : Nat → Nat → Nat) (A : Nat → Prop) (ad : Nat → Nat) (k : Nat → ClassId) (q : Nat → Nat → Int32) (pm : Nat → Nat) (o : Nat → Int32) (g : ft_G) (x1 : Int32): vx_Met l yX7_queueTime wsX7_queueTime ({ frames := 7, cells := 1, slots := 6, locals := 111 }) (ft_Pe dC k Z A [.ref (ad 253), .int x1] (ft_WR ad k Z q pm o g)) (ft_Qx (s_X7_queueTime q o x1)) (ft_Xx (s_X7_queueTime q o x1)) 1 6 (fun _ => False) := by
  refine vx_ofW (cc := cX7_queueTime) (maxL := 2) (ret := (some .int)) (by decide) rfl ?_
  intro p e s m args below meth c s₁ B hml hnt hv
  obtain ⟨hargs, hP, hE⟩ := hv
  have hK := hE.1
  subst hargs
  have hx := B.exec
  have hb := B.bytes
  have hr := B.returns
  have hts := atoms_spec (ws := wsX7_queueTime) B.pre
  have hown : s.vm.findClass RX7 = some m.cls := findClass_of_methodNamed B.named
  have hlocks := B.notSynchronized
  have hS0 : va_S (fun _ => False) s.heap s.heap [] := va_S.rf
  have hl := lv_entry ([.ref (ad 253), .int x1]) (n := 2) (Nat.le_of_ble_eq_true rfl)
  rw [lg_entry_eq]
  generalize (lg_sl ([.ref (ad 253), .int x1]) ++ List.replicate (2 - (lg_sl ([.ref (ad 253), .int x1])).length) Slot.unset).toArray = ls at hl ⊢
  have hl : lv_has ls 2 [(0, .ref (ad 253)), (1, .int (x1))] := hl
  have hsp := (s_X7_queueTime.eq_1 q o x1).symm
  refine lv_aload_n hx hb dX7_queueTime_0 rfl (lv_at hl 0 rfl) ?_
  refine lv_iload_n hx hb dX7_queueTime_1 rfl (lv_at hl 1 rfl) ?_
  refine vx_callv (vx_runV (As := [.int (x1)]) (rest := []) ⟨hx, hb, hml, hown, hts⟩ (c_X7_needTruck l hl0 dC Z A ad k q pm o g x1) (cwV 1 hts gX7_queueTime_X7_needTruck rfl rfl rfl (by decide +kernel) ⟨Nat.le_of_ble_eq_true rfl, Nat.le_of_ble_eq_true rfl⟩) (ft_preVg hE (ft_Sm hS0) (fun _ h => h) hP (ci := 9) (q0 := 253) rfl (ft_get' (by decide) rfl)) rfl rfl hl.1 rfl (lv_room (Nat.le_of_ble_eq_true rfl)) dX7_queueTime_2 ⟨Nat.le_of_ble_eq_true rfl, Nat.le_of_ble_eq_true rfl⟩) hS0 (fun _ _ h => h) (fun _ h => h) (fun _ _ h => h) (fun E ce q9 u t H1 locs1 ht hvm hu hB hz1 hk1 hS1 hc1 hc2 hc3 => ?_) (fun u t H1 locs1 ht hvm hw hB hz1 hk1 hS1 => ?_)
  · exact vx_out (fun x hx9 => (hnt x hx9).elim) hlocks hc1 hc2 hc3 (fun t2 ht2 hv2 => ⟨(), trivial, ft_xb_err hB hsp, ft_Fx hS1 (by rw [ht2]; exact Nat.le_refl _) (fun q _ => by rw [ht2])⟩) (fun z hz => (hS1.2.2 z hz).elim) (by decide) (by decide)
  replace hsp := ft_xb_ok hw hsp
  have hP := ft_keep hP hk1
  have hw_2 := hw
  have hS0 := hS1
  clear hS1
  generalize H1 = H at hP hS0 ⊢
  refine lv_aload_n hx hb dX7_queueTime_5 rfl (lv_at hl 0 rfl) ?_
  refine va_get (D := dC) (ci := 9) (v := .ref (ft_sq ad 0 0)) (C := RX7) (T := TX7) (N := 9) hx hb hts (by decide +kernel) hown hK.1 hP 253 (ft_get' (by decide) rfl) rfl 0 (by decide) (hts (.fieldLink RX7 12 "FoodTruckRota" "square" "LFoodTruckRota$Square;") (by decide +kernel)) (fun _ h9 => h9) rfl dX7_queueTime_6 ?_
  refine va_getN (D := dC) (ci := 6) (v := .ref (ft_sq ad 0 1)) (C := RX4) (T := TX4) (N := 12) hx hb hts (by decide +kernel) hown hK.1 (ft_R_S hP (s := 0) (by decide)) 0 (ft_get' (by decide) rfl) rfl 0 (by decide) (ft_nl hK.2 8 rfl) (fun _ h9 => h9) rfl dX7_queueTime_9 ?_
  refine lv_iload_n hx hb dX7_queueTime_12 rfl (lv_at hl 1 rfl) ?_
  have h_13 : vp_in x1 6 := by first | assumption | exact need_in (by assumption) | exact dish_in (by assumption)
  refine va_aldq (C := RX6) hx hb hK.1 (ft_R_S hP (s := 0) (by decide)) 1 1 (ft_get' (by decide) rfl) rfl h_13 dX7_queueTime_13 ?_
  refine W.eq (g2 := F0 m 14 ls [.ref (ft_at (ft_sq ad 0) (tn x1) 0)]) rfl ?_
  refine vp_callSi (va_Run.run (va_runV (As := []) (rest := []) ⟨hx, hb, hml, hown, hts⟩ (c_X6_minutesForQueue l dC (ft_at (ft_sq ad 0) (tn x1)) k (q 0) (51 + 17 * (tn x1))) (cwV 0 hts gX7_queueTime_X6_minutesForQueue rfl rfl rfl (by decide +kernel) ⟨Nat.le_of_ble_eq_true rfl, Nat.le_of_ble_eq_true rfl⟩) (ft_preVc hK (ft_S_P (ft_R_S hP (s := 0) (by decide)) (ft_tn h_13)) (ci := 8) rfl (ft_get' (by decide) rfl)) rfl rfl hl.1 rfl (lv_room (Nat.le_of_ble_eq_true rfl)) dX7_queueTime_14 ⟨Nat.le_of_ble_eq_true rfl, Nat.le_of_ble_eq_true rfl⟩)) (fun z hz => ?_)
  subst hz
  refine vx_ret ?_
  refine W.widen (k := 1) (n := 6) (by decide) (by decide) ?_
  exact W.iret (v := (s_X6_minutesForQueue (q 0) (51 + 17 * (tn x1)))) hx hb hr (fun t ht hW => ⟨⟨(s_X6_minutesForQueue (q 0) (51 + 17 * (tn x1))), (), rfl, hsp.symm, trivial⟩, ft_Fx hS0 (by rw [ht]; exact Nat.le_refl _) (fun q _ => by rw [ht])⟩) (fun z hz => (hS0.2.2 z hz).elim) dX7_queueTime_17

def s_X7_truckByCoins (q : Nat → Nat → Int32) (o : Nat → Int32) (x1 : Int32) : Except String Int32 := ft_xb (s_X7_needFound (s_X4_truckRanked (q 0) x1)) (fun z_8 => .ok z_8)
set_option maxHeartbeats 4000000 in
set_option maxRecDepth 100000 in
theorem c_X7_truckByCoins (l : Launch) (hl0 : l.stackTraces = false) (dC : va_G) (Z : Nat → Nat → Nat) (A : Nat → Prop) (ad : Nat → Nat) (k : Nat → ClassId) (q : Nat → Nat → Int32) (pm : Nat → Nat) (o : Nat → Int32) (g : ft_G) (x1 : Int32): vx_Met l yX7_truckByCoins wsX7_truckByCoins ({ frames := 7, cells := 1, slots := 6, locals := 110 }) (ft_Pe dC k Z A [.ref (ad 253), .int x1] (ft_WR ad k Z q pm o g)) (ft_Qx (s_X7_truckByCoins q o x1)) (ft_Xx (s_X7_truckByCoins q o x1)) 1 6 (fun _ => False) := by
  refine vx_ofW (cc := cX7_truckByCoins) (maxL := 2) (ret := (some .int)) (by decide) rfl ?_
  intro p e s m args below meth c s₁ B hml hnt hv
  obtain ⟨hargs, hP, hE⟩ := hv
  have hK := hE.1
  subst hargs
  have hx := B.exec
  have hb := B.bytes
  have hr := B.returns
  have hts := atoms_spec (ws := wsX7_truckByCoins) B.pre
  have hown : s.vm.findClass RX7 = some m.cls := findClass_of_methodNamed B.named
  have hlocks := B.notSynchronized
  have hS0 : va_S (fun _ => False) s.heap s.heap [] := va_S.rf
  have hl := lv_entry ([.ref (ad 253), .int x1]) (n := 2) (Nat.le_of_ble_eq_true rfl)
  rw [lg_entry_eq]
  generalize (lg_sl ([.ref (ad 253), .int x1]) ++ List.replicate (2 - (lg_sl ([.ref (ad 253), .int x1])).length) Slot.unset).toArray = ls at hl ⊢
  have hl : lv_has ls 2 [(0, .ref (ad 253)), (1, .int (x1))] := hl
  have hsp := (s_X7_truckByCoins.eq_1 q o x1).symm
  refine lv_aload_n hx hb dX7_truckByCoins_0 rfl (lv_at hl 0 rfl) ?_
  refine va_get (D := dC) (ci := 9) (v := .ref (ft_sq ad 0 0)) (C := RX7) (T := TX7) (N := 9) hx hb hts (by decide +kernel) hown hK.1 hP 253 (ft_get' (by decide) rfl) rfl 0 (by decide) (hts (.fieldLink RX7 12 "FoodTruckRota" "square" "LFoodTruckRota$Square;") (by decide +kernel)) (fun _ h9 => h9) rfl dX7_truckByCoins_1 ?_
  refine lv_iload_n hx hb dX7_truckByCoins_4 rfl (lv_at hl 1 rfl) ?_
  refine vp_callSi (va_Run.run (va_runV (As := [.int (x1)]) (rest := []) ⟨hx, hb, hml, hown, hts⟩ (c_X4_truckRanked l dC (ft_sq ad 0) k (q 0) x1) (cwV 1 hts gX7_truckByCoins_X4_truckRanked rfl rfl rfl (by decide +kernel) ⟨Nat.le_of_ble_eq_true rfl, Nat.le_of_ble_eq_true rfl⟩) (ft_preVc hK (ft_R_S hP (s := 0) (by decide)) (ci := 6) rfl (ft_get' (by decide) rfl)) rfl rfl hl.1 rfl (lv_room (Nat.le_of_ble_eq_true rfl)) dX7_truckByCoins_5 ⟨Nat.le_of_ble_eq_true rfl, Nat.le_of_ble_eq_true rfl⟩)) (fun z hz => ?_)
  subst hz
  refine vx_calli (vx_runS (As := [.int ((s_X4_truckRanked (q 0) x1))]) (rest := []) ⟨hx, hb, hml, hown, hts⟩ (c_X7_needFound l hl0 dC Z A k (s_X4_truckRanked (q 0) x1)) (va_cwS 1 hts gX7_truckByCoins_X7_needFound rfl rfl rfl (by decide +kernel) ⟨Nat.le_of_ble_eq_true rfl, Nat.le_of_ble_eq_true rfl⟩) (ft_preSo hE (ft_Sm hS0) (fun _ h => h)) rfl rfl hl.1 rfl (lv_room (Nat.le_of_ble_eq_true rfl)) dX7_truckByCoins_8 ⟨Nat.le_of_ble_eq_true rfl, Nat.le_of_ble_eq_true rfl⟩) hS0 (fun _ _ h => h) (fun _ h => h) (fun _ _ h => h) (fun E ce q9 u t H1 locs1 ht hvm hu hB hz1 hk1 hS1 hc1 hc2 hc3 => ?_) (fun z_8 u t H1 locs1 ht hvm hw hB hz1 hk1 hS1 => ?_)
  · exact vx_out (fun x hx9 => (hnt x hx9).elim) hlocks hc1 hc2 hc3 (fun t2 ht2 hv2 => ⟨(), trivial, ft_xb_err hB hsp, ft_Fx hS1 (by rw [ht2]; exact Nat.le_refl _) (fun q _ => by rw [ht2])⟩) (fun z hz => (hS1.2.2 z hz).elim) (by decide) (by decide)
  replace hsp := ft_xb_ok hw hsp
  have hP := ft_keep hP hk1
  have hw_8 := hw
  have hS0 := hS1
  clear hS1
  generalize H1 = H at hP hS0 ⊢
  refine vx_ret ?_
  refine W.widen (k := 1) (n := 6) (by decide) (by decide) ?_
  exact W.iret (v := z_8) hx hb hr (fun t ht hW => ⟨⟨z_8, (), rfl, hsp.symm, trivial⟩, ft_Fx hS0 (by rw [ht]; exact Nat.le_refl _) (fun q _ => by rw [ht])⟩) (fun z hz => (hS0.2.2 z hz).elim) dX7_truckByCoins_11

def s_X7_soldPortions (q : Nat → Nat → Int32) (o : Nat → Int32) (x1 : Int32) : Except String Int32 := ft_xb (s_X7_needDish x1) (fun _ => .ok (ft_ar (q 0) 12 4 (tn x1)))
set_option maxHeartbeats 4000000 in
set_option maxRecDepth 100000 in
theorem c_X7_soldPortions (l : Launch) (hl0 : l.stackTraces = false) (dC : va_G) (Z : Nat → Nat → Nat) (A : Nat → Prop) (ad : Nat → Nat) (k : Nat → ClassId) (q : Nat → Nat → Int32) (pm : Nat → Nat) (o : Nat → Int32) (g : ft_G) (x1 : Int32): vx_Met l yX7_soldPortions wsX7_soldPortions ({ frames := 7, cells := 1, slots := 6, locals := 110 }) (ft_Pe dC k Z A [.ref (ad 253), .int x1] (ft_WR ad k Z q pm o g)) (ft_Qx (s_X7_soldPortions q o x1)) (ft_Xx (s_X7_soldPortions q o x1)) 1 6 (fun _ => False) := by
  refine vx_ofW (cc := cX7_soldPortions) (maxL := 2) (ret := (some .int)) (by decide) rfl ?_
  intro p e s m args below meth c s₁ B hml hnt hv
  obtain ⟨hargs, hP, hE⟩ := hv
  have hK := hE.1
  subst hargs
  have hx := B.exec
  have hb := B.bytes
  have hr := B.returns
  have hts := atoms_spec (ws := wsX7_soldPortions) B.pre
  have hown : s.vm.findClass RX7 = some m.cls := findClass_of_methodNamed B.named
  have hlocks := B.notSynchronized
  have hS0 : va_S (fun _ => False) s.heap s.heap [] := va_S.rf
  have hl := lv_entry ([.ref (ad 253), .int x1]) (n := 2) (Nat.le_of_ble_eq_true rfl)
  rw [lg_entry_eq]
  generalize (lg_sl ([.ref (ad 253), .int x1]) ++ List.replicate (2 - (lg_sl ([.ref (ad 253), .int x1])).length) Slot.unset).toArray = ls at hl ⊢
  have hl : lv_has ls 2 [(0, .ref (ad 253)), (1, .int (x1))] := hl
  have hsp := (s_X7_soldPortions.eq_1 q o x1).symm
  refine lv_iload_n hx hb dX7_soldPortions_0 rfl (lv_at hl 1 rfl) ?_
  refine vx_callv (vx_runS (As := [.int (x1)]) (rest := []) ⟨hx, hb, hml, hown, hts⟩ (c_X7_needDish l hl0 dC Z A k x1) (va_cwS 1 hts gX7_soldPortions_X7_needDish rfl rfl rfl (by decide +kernel) ⟨Nat.le_of_ble_eq_true rfl, Nat.le_of_ble_eq_true rfl⟩) (ft_preSo hE (ft_Sm hS0) (fun _ h => h)) rfl rfl hl.1 rfl (lv_room (Nat.le_of_ble_eq_true rfl)) dX7_soldPortions_1 ⟨Nat.le_of_ble_eq_true rfl, Nat.le_of_ble_eq_true rfl⟩) hS0 (fun _ _ h => h) (fun _ h => h) (fun _ _ h => h) (fun E ce q9 u t H1 locs1 ht hvm hu hB hz1 hk1 hS1 hc1 hc2 hc3 => ?_) (fun u t H1 locs1 ht hvm hw hB hz1 hk1 hS1 => ?_)
  · exact vx_out (fun x hx9 => (hnt x hx9).elim) hlocks hc1 hc2 hc3 (fun t2 ht2 hv2 => ⟨(), trivial, ft_xb_err hB hsp, ft_Fx hS1 (by rw [ht2]; exact Nat.le_refl _) (fun q _ => by rw [ht2])⟩) (fun z hz => (hS1.2.2 z hz).elim) (by decide) (by decide)
  replace hsp := ft_xb_ok hw hsp
  have hP := ft_keep hP hk1
  have hw_1 := hw
  have hS0 := hS1
  clear hS1
  generalize H1 = H at hP hS0 ⊢
  refine lv_aload_n hx hb dX7_soldPortions_4 rfl (lv_at hl 0 rfl) ?_
  refine va_get (D := dC) (ci := 9) (v := .ref (ft_sq ad 0 0)) (C := RX7) (T := TX7) (N := 9) hx hb hts (by decide +kernel) hown hK.1 hP 253 (ft_get' (by decide) rfl) rfl 0 (by decide) (hts (.fieldLink RX7 12 "FoodTruckRota" "square" "LFoodTruckRota$Square;") (by decide +kernel)) (fun _ h9 => h9) rfl dX7_soldPortions_5 ?_
  refine va_getN (D := dC) (ci := 6) (v := .ref (ft_sq ad 0 4)) (C := RX4) (T := TX4) (N := 12) hx hb hts (by decide +kernel) hown hK.1 (ft_R_S hP (s := 0) (by decide)) 0 (ft_get' (by decide) rfl) rfl 3 (by decide) (ft_nl hK.2 10 rfl) (fun _ h9 => h9) rfl dX7_soldPortions_8 ?_
  refine lv_iload_n hx hb dX7_soldPortions_11 rfl (lv_at hl 1 rfl) ?_
  have h_12 : vp_in x1 4 := by first | assumption | exact need_in (by assumption) | exact dish_in (by assumption)
  refine va_iald hx hb hK.1 (ft_R_S hP (s := 0) (by decide)) 4 0 (ft_get' (by decide) rfl) rfl h_12 dX7_soldPortions_12 ?_
  refine vx_ret ?_
  refine W.widen (k := 1) (n := 6) (by decide) (by decide) ?_
  exact W.iret (v := ft_ar (q 0) 12 4 (tn x1)) hx hb hr (fun t ht hW => ⟨⟨ft_ar (q 0) 12 4 (tn x1), (), rfl, hsp.symm, trivial⟩, ft_Fx hS0 (by rw [ht]; exact Nat.le_refl _) (fun q _ => by rw [ht])⟩) (fun z hz => (hS0.2.2 z hz).elim) dX7_soldPortions_13

def s_X7_failedCommand (q : Nat → Nat → Int32) (o : Nat → Int32)  : Except String Int32 := ft_xb (s_X7_needFound (o 2)) (fun z_4 => .ok z_4)
set_option maxHeartbeats 4000000 in
set_option maxRecDepth 100000 in
theorem c_X7_failedCommand (l : Launch) (hl0 : l.stackTraces = false) (dC : va_G) (Z : Nat → Nat → Nat) (A : Nat → Prop) (ad : Nat → Nat) (k : Nat → ClassId) (q : Nat → Nat → Int32) (pm : Nat → Nat) (o : Nat → Int32) (g : ft_G) : vx_Met l yX7_failedCommand wsX7_failedCommand ({ frames := 7, cells := 1, slots := 6, locals := 110 }) (ft_Pe dC k Z A [.ref (ad 253)] (ft_WR ad k Z q pm o g)) (ft_Qx (s_X7_failedCommand q o)) (ft_Xx (s_X7_failedCommand q o)) 1 6 (fun _ => False) := by
  refine vx_ofW (cc := cX7_failedCommand) (maxL := 1) (ret := (some .int)) (by decide) rfl ?_
  intro p e s m args below meth c s₁ B hml hnt hv
  obtain ⟨hargs, hP, hE⟩ := hv
  have hK := hE.1
  subst hargs
  have hx := B.exec
  have hb := B.bytes
  have hr := B.returns
  have hts := atoms_spec (ws := wsX7_failedCommand) B.pre
  have hown : s.vm.findClass RX7 = some m.cls := findClass_of_methodNamed B.named
  have hlocks := B.notSynchronized
  have hS0 : va_S (fun _ => False) s.heap s.heap [] := va_S.rf
  have hl := lv_entry ([.ref (ad 253)]) (n := 1) (Nat.le_of_ble_eq_true rfl)
  rw [lg_entry_eq]
  generalize (lg_sl ([.ref (ad 253)]) ++ List.replicate (1 - (lg_sl ([.ref (ad 253)])).length) Slot.unset).toArray = ls at hl ⊢
  have hl : lv_has ls 1 [(0, .ref (ad 253))] := hl
  have hsp := (s_X7_failedCommand.eq_1 q o ).symm
  refine lv_aload_n hx hb dX7_failedCommand_0 rfl (lv_at hl 0 rfl) ?_
  refine va_get (D := dC) (ci := 9) (v := .int (o 2)) (C := RX7) (T := TX7) (N := 9) hx hb hts (by decide +kernel) hown hK.1 hP 253 (ft_get' (by decide) rfl) rfl 8 (by decide) (hts (.fieldLink RX7 47 "FoodTruckRota" "latestFailedCommand" "I") (by decide +kernel)) (fun _ h9 => h9) rfl dX7_failedCommand_1 ?_
  refine vx_calli (vx_runS (As := [.int (o 2)]) (rest := []) ⟨hx, hb, hml, hown, hts⟩ (c_X7_needFound l hl0 dC Z A k (o 2)) (va_cwS 1 hts gX7_failedCommand_X7_needFound rfl rfl rfl (by decide +kernel) ⟨Nat.le_of_ble_eq_true rfl, Nat.le_of_ble_eq_true rfl⟩) (ft_preSo hE (ft_Sm hS0) (fun _ h => h)) rfl rfl hl.1 rfl (lv_room (Nat.le_of_ble_eq_true rfl)) dX7_failedCommand_4 ⟨Nat.le_of_ble_eq_true rfl, Nat.le_of_ble_eq_true rfl⟩) hS0 (fun _ _ h => h) (fun _ h => h) (fun _ _ h => h) (fun E ce q9 u t H1 locs1 ht hvm hu hB hz1 hk1 hS1 hc1 hc2 hc3 => ?_) (fun z_4 u t H1 locs1 ht hvm hw hB hz1 hk1 hS1 => ?_)
  · exact vx_out (fun x hx9 => (hnt x hx9).elim) hlocks hc1 hc2 hc3 (fun t2 ht2 hv2 => ⟨(), trivial, ft_xb_err hB hsp, ft_Fx hS1 (by rw [ht2]; exact Nat.le_refl _) (fun q _ => by rw [ht2])⟩) (fun z hz => (hS1.2.2 z hz).elim) (by decide) (by decide)
  replace hsp := ft_xb_ok hw hsp
  have hP := ft_keep hP hk1
  have hw_4 := hw
  have hS0 := hS1
  clear hS1
  generalize H1 = H at hP hS0 ⊢
  refine vx_ret ?_
  refine W.widen (k := 1) (n := 6) (by decide) (by decide) ?_
  exact W.iret (v := z_4) hx hb hr (fun t ht hW => ⟨⟨z_4, (), rfl, hsp.symm, trivial⟩, ft_Fx hS0 (by rw [ht]; exact Nat.le_refl _) (fun q _ => by rw [ht])⟩) (fun z hz => (hS0.2.2 z hz).elim) dX7_failedCommand_7
