theorem ft_R_B {D : va_G} {ad : Nat → Nat} {k : Nat → ClassId} {Z : Nat → Nat → Nat} {q : Nat → Nat → Int32} {pm : Nat → Nat} {o : Nat → Int32} {g : ft_G} {H : Heap} (hP : va_P D vwCl (ft_WR ad k Z q pm o g) H) : va_P D vwCl (ft_WB (fun j => ad (260 + j)) k (o 9, o 7, g.2.1.1, g.2.1.2)) H :=
  ft_P_sub (m := 2) hP (fun j => 260 + j) (fun j hj => by have : j < 2 := hj; omega) (fun _ _ => rfl) (fun j hj => match j, hj with
    | 0, _ => rfl
    | 1, _ => rfl)

def s_X7_outputAt (q : Nat → Nat → Int32) (o : Nat → Int32) (g : ft_G) (x1 : Int32) : Except String Int32 := if x1 < 0 then (.error "java/lang/IndexOutOfBoundsException") else (if x1 < (s_J4_length_8abf5 (o 9, o 7, g.2.1.1, g.2.1.2)) then (.ok (s_J4_charAt_5068e (o 9, o 7, g.2.1.1, g.2.1.2) x1)) else (.error "java/lang/IndexOutOfBoundsException"))
set_option maxHeartbeats 4000000 in
set_option maxRecDepth 100000 in
theorem c_X7_outputAt (l : Launch) (hl0 : l.stackTraces = false) (dC : va_G) (Z : Nat → Nat → Nat) (A : Nat → Prop) (ad : Nat → Nat) (k : Nat → ClassId) (q : Nat → Nat → Int32) (pm : Nat → Nat) (o : Nat → Int32) (g : ft_G) (x1 : Int32) (hc1 : o 7 ≤ nI g.2.1.1) (hc2 : g.2.1.1 < 2 ^ 31): vx_Met l yX7_outputAt wsX7_outputAt ({ frames := 6, cells := 1, slots := 6, locals := 90 }) (ft_Pe dC k Z A [.ref (ad 253), .int x1] (ft_WR ad k Z q pm o g)) (ft_Qx (s_X7_outputAt q o g x1)) (ft_Xx (s_X7_outputAt q o g x1)) 1 6 (fun _ => False) := by
  refine vx_ofW (cc := cX7_outputAt) (maxL := 2) (ret := (some .char)) (by decide) rfl ?_
  intro p e s m args below meth c s₁ B hml hnt hv
  obtain ⟨hargs, hP, hE⟩ := hv
  have hK := hE.1
  subst hargs
  have hx := B.exec
  have hb := B.bytes
  have hr := B.returns
  have hts := atoms_spec (ws := wsX7_outputAt) B.pre
  have hown : s.vm.findClass RX7 = some m.cls := findClass_of_methodNamed B.named
  have hlocks := B.notSynchronized
  have hS0 : va_S (fun _ => False) s.heap s.heap [] := va_S.rf
  have hl := lv_entry ([.ref (ad 253), .int x1]) (n := 2) (Nat.le_of_ble_eq_true rfl)
  rw [lg_entry_eq]
  generalize (lg_sl ([.ref (ad 253), .int x1]) ++ List.replicate (2 - (lg_sl ([.ref (ad 253), .int x1])).length) Slot.unset).toArray = ls at hl ⊢
  have hl : lv_has ls 2 [(0, .ref (ad 253)), (1, .int (x1))] := hl
  have hsp := (s_X7_outputAt.eq_1 q o g x1).symm
  refine lv_iload_n hx hb dX7_outputAt_0 rfl (lv_at hl 1 rfl) ?_
  refine lv_if_lt (tgt := 15) hx hb dX7_outputAt_1 (by decide) (fun c_1 => ?_) (fun c_1 => ?_)
  · replace hsp := (if_pos c_1).symm.trans hsp
    obtain ⟨sa, hsa⟩ := hE.2.1.2.1 (RX7, 232, "no such index in the output text") (List.mem_of_getElem? (i := 18) rfl)
    exact vx_throwS (text := "no such index in the output text") (names := ["java/lang/RuntimeException", "java/lang/Exception"]) hx hb hl0 hown (by decide +kernel) (by decide +kernel) (hts (.classLink RX7 230 "java/lang/IndexOutOfBoundsException") (by decide +kernel)) (hts (.initialized "java/lang/IndexOutOfBoundsException") (by decide +kernel)) hsa (vx_hat (fun w h => hts w (List.mem_cons_of_mem _ (List.mem_append_right _ h))) (by decide +kernel) (ft_xw hE "java/lang/IndexOutOfBoundsException" (by decide +kernel))) (by decide +kernel) hE.2.2.us hE.2.2.ss (ft_Sm hS0) (hl.1.trans hml.symm) dX7_outputAt_15 dX7_outputAt_18 dX7_outputAt_19 dX7_outputAt_21 dX7_outputAt_24 (fun x hx9 => (hnt x hx9).elim) (Nat.le_of_ble_eq_true rfl) (Nat.le_of_ble_eq_true rfl) (Nat.le_of_ble_eq_true rfl) (Nat.le_of_ble_eq_true rfl) hlocks (fun t _ h1 h2 => ⟨(), trivial, hsp.symm, ft_Fx hS0 h1 h2⟩) (fun z hz => (hS0.2.2 z hz).elim) (by decide) (by decide)
  · replace hsp := (if_neg c_1).symm.trans hsp
    refine lv_iload_n hx hb dX7_outputAt_4 rfl (lv_at hl 1 rfl) ?_
    refine lv_aload_n hx hb dX7_outputAt_5 rfl (lv_at hl 0 rfl) ?_
    refine va_get (D := dC) (ci := 9) (v := .ref (ad 260)) (C := RX7) (T := TX7) (N := 9) hx hb hts (by decide +kernel) hown hK.1 hP 253 (ft_get' (by decide) rfl) rfl 5 (by decide) (hts (.fieldLink RX7 39 "FoodTruckRota" "output" "Ljava/lang/StringBuilder;") (by decide +kernel)) (fun _ h9 => h9) rfl dX7_outputAt_6 ?_
    refine vp_callSi (va_Run.run (va_runV (As := []) (rest := [.int (x1)]) ⟨hx, hb, hml, hown, hts⟩ (c_J4_length_8abf5 l dC (fun j => ad (260 + j)) k (o 9, o 7, g.2.1.1, g.2.1.2)) (cwV 0 hts gX7_outputAt_J4_length_8abf5 rfl rfl rfl (by decide +kernel) ⟨Nat.le_of_ble_eq_true rfl, Nat.le_of_ble_eq_true rfl⟩) (ft_preVc hK (ft_R_B hP) (ci := 1) rfl (ft_get' (by decide) rfl)) rfl rfl hl.1 rfl (lv_room (Nat.le_of_ble_eq_true rfl)) dX7_outputAt_9 ⟨Nat.le_of_ble_eq_true rfl, Nat.le_of_ble_eq_true rfl⟩)) (fun z hz => ?_)
    subst hz
    refine lv_icmp_lt (tgt := 25) hx hb dX7_outputAt_12 (by decide) (fun c_12 => ?_) (fun c_12 => ?_)
    · replace hsp := (if_pos c_12).symm.trans hsp
      refine lv_aload_n hx hb dX7_outputAt_25 rfl (lv_at hl 0 rfl) ?_
      refine va_get (D := dC) (ci := 9) (v := .ref (ad 260)) (C := RX7) (T := TX7) (N := 9) hx hb hts (by decide +kernel) hown hK.1 hP 253 (ft_get' (by decide) rfl) rfl 5 (by decide) (hts (.fieldLink RX7 39 "FoodTruckRota" "output" "Ljava/lang/StringBuilder;") (by decide +kernel)) (fun _ h9 => h9) rfl dX7_outputAt_26 ?_
      refine lv_iload_n hx hb dX7_outputAt_29 rfl (lv_at hl 1 rfl) ?_
      refine vp_callSi (va_Run.run (va_runV (As := [.int (x1)]) (rest := []) ⟨hx, hb, hml, hown, hts⟩ (c_J4_charAt_5068e l dC Z A (fun j => ad (260 + j)) k (o 9, o 7, g.2.1.1, g.2.1.2) x1 c_1 c_12 hc2 hc1) (cwV 1 hts gX7_outputAt_J4_charAt_5068e rfl rfl rfl (by decide +kernel) ⟨Nat.le_of_ble_eq_true rfl, Nat.le_of_ble_eq_true rfl⟩) (ft_preVe hE (ft_Sm hS0) (fun _ h => h) (ft_R_B hP) (ci := 1) rfl (ft_get' (by decide) rfl)) rfl rfl hl.1 rfl (lv_room (Nat.le_of_ble_eq_true rfl)) dX7_outputAt_30 ⟨Nat.le_of_ble_eq_true rfl, Nat.le_of_ble_eq_true rfl⟩)) (fun z hz => ?_)
      subst hz
      refine vx_ret ?_
      refine W.widen (k := 1) (n := 6) (by decide) (by decide) ?_
      exact W.zret (v := (s_J4_charAt_5068e (o 9, o 7, g.2.1.1, g.2.1.2) x1)) hx hb hr (by unfold s_J4_charAt_5068e s_J5_charAt_5068e; exact ft_nar_c _) (fun t ht hW => ⟨⟨(s_J4_charAt_5068e (o 9, o 7, g.2.1.1, g.2.1.2) x1), (), rfl, hsp.symm, trivial⟩, ft_Fx hS0 (by rw [ht]; exact Nat.le_refl _) (fun q _ => by rw [ht])⟩) (fun z hz => (hS0.2.2 z hz).elim) dX7_outputAt_33
    · replace hsp := (if_neg c_12).symm.trans hsp
      obtain ⟨sa, hsa⟩ := hE.2.1.2.1 (RX7, 232, "no such index in the output text") (List.mem_of_getElem? (i := 18) rfl)
      exact vx_throwS (text := "no such index in the output text") (names := ["java/lang/RuntimeException", "java/lang/Exception"]) hx hb hl0 hown (by decide +kernel) (by decide +kernel) (hts (.classLink RX7 230 "java/lang/IndexOutOfBoundsException") (by decide +kernel)) (hts (.initialized "java/lang/IndexOutOfBoundsException") (by decide +kernel)) hsa (vx_hat (fun w h => hts w (List.mem_cons_of_mem _ (List.mem_append_right _ h))) (by decide +kernel) (ft_xw hE "java/lang/IndexOutOfBoundsException" (by decide +kernel))) (by decide +kernel) hE.2.2.us hE.2.2.ss (ft_Sm hS0) (hl.1.trans hml.symm) dX7_outputAt_15 dX7_outputAt_18 dX7_outputAt_19 dX7_outputAt_21 dX7_outputAt_24 (fun x hx9 => (hnt x hx9).elim) (Nat.le_of_ble_eq_true rfl) (Nat.le_of_ble_eq_true rfl) (Nat.le_of_ble_eq_true rfl) (Nat.le_of_ble_eq_true rfl) hlocks (fun t _ h1 h2 => ⟨(), trivial, hsp.symm, ft_Fx hS0 h1 h2⟩) (fun z hz => (hS0.2.2 z hz).elim) (by decide) (by decide)
