theorem ft_newH0 (ad : Nat → Nat) (k : Nat → ClassId) (q1 : Nat) : ([(ad 0, (.inr (4, [.ref q1, .int 0]) : va_E)), (q1, .inl (k 2, 8, .inr (.inr (.inr (.inr (fun _ => none))))))] : va_W) = ft_W 2 (fun j => match j with | 0 => ad 0 | _ => q1) (ft_cH k 0 (fun j => match j with | 0 => ad 0 | _ => q1)) := rfl
set_option maxHeartbeats 4000000 in
set_option maxRecDepth 100000 in
theorem c_X2_init (l : Launch) (dC : va_G) (Z : Nat → Nat → Nat) (ad : Nat → Nat) (k : Nat → ClassId) (sz : Nat) : Met l yX2_init wsX2_init ({ frames := 3, cells := 185, slots := 1408, locals := 110 }) (ft_Pk dC k Z (ft_An 1 ad sz) [.ref (ad 0)] (ft_W 1 ad (fun _ => .inr (4, [.null, .int 0]))) sz) (va_Qv (fun _ : Nat → Nat => True) (fun f t => f 0 = ad 0 ∧ va_P dC vwCl (ft_W 186 f (ft_cH k 8 f)) t.heap ∧ va_D (ft_An 1 ad sz) (ft_W 186 f (ft_cH k 8 f))) (ft_An 1 ad sz)) 185 1408 (ft_An 1 ad sz) := by
  refine Met.ofW (cc := cX2_init) (maxL := 2) (ret := none) (by decide) rfl ?_
  intro p e s m args below meth c s₁ B hml hv
  obtain ⟨hargs, hP, hE, hD0, hsz, hO⟩ := hv
  have hK := hE.1
  subst hargs
  have hx := B.exec
  have hb := B.bytes
  have hr := B.returns
  have hin : meth.name = "<init>" := (name_of_methodNamed B.named B.method).1
  have hts := atoms_spec (ws := wsX2_init) B.pre
  have hown : s.vm.findClass RX2 = some m.cls := findClass_of_methodNamed B.named
  have hlocks := B.notSynchronized
  have hD : va_D (ft_An 1 ad sz) [(ad 0, (.inr (4, [.null, .int 0]) : va_E))] := (ft_D_self hD0).weaken (fun _ _ _ h => Or.inl h)
  have hP : va_P dC vwCl [(ad 0, (.inr (4, [.null, .int 0]) : va_E))] s.heap := hP
  have hS : va_S (ft_An 1 ad sz) s.heap s.heap [] := va_S.rf
  have hl := lv_entry ([.ref (ad 0)]) (n := 2) (Nat.le_of_ble_eq_true rfl)
  rw [lg_entry_eq]
  generalize (lg_sl ([.ref (ad 0)]) ++ List.replicate (2 - (lg_sl ([.ref (ad 0)])).length) Slot.unset).toArray = ls at hl ⊢
  have hl : lv_has ls 2 [(0, .ref (ad 0))] := hl
  refine lv_aload_n hx hb dX2_init_0 rfl (lv_at hl 0 rfl) ?_
  refine W.objInit hx hb hown (hts (.methodLink RX2 3 objectInit) (by decide +kernel)) (hts (.instanceMethod objectInit) (by decide +kernel)) (hts (.code objectInit ⟨#[0xb1]⟩ 1 none) (by decide +kernel)) rfl (by rw [hml]; exact hl.1) rfl dX2_init_1 (Nat.le_of_ble_eq_true rfl) (Nat.le_of_ble_eq_true rfl) ?_
  refine W.eq (g2 := F0 m 4 ls []) rfl ?_
  refine lv_aload_n hx hb dX2_init_4 rfl (lv_at hl 0 rfl) ?_
  refine lv_bipush (v := 8) hx hb dX2_init_5 (by decide) ?_
  refine va_newq (C := RX4) (N' := 8) hx hb hown (hts (.classLink RX2 9 RX4) (by decide +kernel)) hO.2.1 hK.1 hP hD hS (fun z hz => Or.inr (Nat.le_trans hsz hz)) (by decide) (by decide) (by decide) (Nat.le_of_ble_eq_true rfl) (Nat.le_of_ble_eq_true rfl) dX2_init_7 (fun q1 cA H1 hK1 hP hD hS => ?_)
  have ec : cA = k 2 := by
    obtain ⟨_, _, _, _, _, e5⟩ := (hK1.2 5 _ rfl).2
    obtain ⟨_, _, _, _, _, e1⟩ := (hK1.2 2 _ rfl).2
    exact Option.some.inj (e5.symm.trans e1)
  subst ec
  clear hK1
  refine va_putF (D := dC) (ci := 4) (v := .ref q1) (ty := .array (.object "FoodTruckRota$Square")) (C := RX2) (T := TX2) (N := 2) hx hb hts (by decide +kernel) tyX2 tyX2_ok nmX2 hown hK.1 hP hD hS 0 rfl rfl 0 (by decide) (hts (.fieldLink RX2 11 "FoodTruckRota$History" "earlier" "[LFoodTruckRota$Square;") (by decide +kernel)) (fun _ h9 => h9) rfl hin rfl (by decide +kernel) rfl rfl (Nat.le_of_ble_eq_true rfl) dX2_init_10 (fun H locs hP hD hS => ?_)
  refine lv_iconst (v := 0) hx hb dX2_init_13 (by decide) ?_
  refine lv_istore_n (lv' := [(1, .int 0), (0, .ref (ad 0))]) hx hb dX2_init_14 rfl hl (by decide) rfl (fun ls hl => ?_)
  have loop : ∀ (d i : Nat), i + d = 8 → ∀ (F : Nat → Nat) (H : Heap) (locs : List Loc) (ls : Array Slot), F 0 = ad 0 → va_P dC vwCl (ft_W (2 + 23 * i) F (ft_cH k i F)) H → va_D (ft_An 1 ad sz) (ft_W (2 + 23 * i) F (ft_cH k i F)) → va_S (ft_An 1 ad sz) s.heap H locs → lv_has ls 2 [(1, .int (nI i)), (0, .ref (F 0))] → W p l e (headSpec wsX2_init ({ frames := 3, cells := 185, slots := 1408, locals := 110 })).room s m ([.ref (ad 0)] : List Value).toArray below meth c H locs (1 + 23 * i) (8 + 175 * i) (MQ below (va_Qv (fun _ : Nat → Nat => True) (fun f t => f 0 = ad 0 ∧ va_P dC vwCl (ft_W 186 f (ft_cH k 8 f)) t.heap ∧ va_D (ft_An 1 ad sz) (ft_W 186 f (ft_cH k 8 f))) (ft_An 1 ad sz)) ([.ref (ad 0)] : List Value).toArray s 185 1408 (ft_An 1 ad sz)) (F0 m 15 ls []) := by
    intro d
    induction d with
    | zero =>
    intro i hi F H locs ls hF0 hP hD hS hl
    obtain rfl : i = 8 := by omega
    refine lv_iload_n hx hb dX2_init_15 rfl (lv_at hl 0 rfl) ?_
    refine lv_bipush (v := 8) hx hb dX2_init_16 (by decide) ?_
    refine lv_icmp_ge (tgt := 40) hx hb dX2_init_18 (by decide) (fun _ => ?_) (fun h9 => absurd (by decide) h9)
    exact W.vret hx hb hr (fun t2 ht2 hW => ⟨⟨F, rfl, trivial, hF0, ft_heap ht2 hP, hD⟩, hS.F ht2⟩) hS.2.2 dX2_init_40
    | succ d ih =>
    intro i hi F H locs ls hF0 hP hD hS hl
    refine lv_iload_n hx hb dX2_init_15 rfl (lv_at hl 0 rfl) ?_
    refine lv_bipush (v := 8) hx hb dX2_init_16 (by decide) ?_
    refine lv_icmp_ge (tgt := 40) hx hb dX2_init_18 (by decide) (fun h9 => absurd ((nI_leI (a := 8) (b := i) (by decide) (by omega)).mp h9) (by omega)) (fun _ => ?_)
    refine lv_aload_n hx hb dX2_init_21 rfl (lv_at hl 1 rfl) ?_
    refine va_get (D := dC) (ci := 4) (v := .ref (F 1)) (C := RX2) (T := TX2) (N := 2) hx hb hts (by decide +kernel) hown hK.1 hP 0 (ft_get' (by omega) rfl) rfl 0 (by decide) (hts (.fieldLink RX2 11 "FoodTruckRota$History" "earlier" "[LFoodTruckRota$Square;") (by decide +kernel)) (fun _ h9 => h9) rfl dX2_init_22 ?_
    refine lv_iload_n hx hb dX2_init_25 rfl (lv_at hl 0 rfl) ?_
    refine va_new hx hb hts (by decide +kernel) tyX4 tyX4_ok hown (hts (.classLink RX2 9 RX4) (by decide +kernel)) (hts (.instantiable RX4 12) (by decide +kernel)) (hts (.initialized RX4) (by decide +kernel)) hK.1 hP hD hS (fun z hz => Or.inr (Nat.le_trans hsz hz)) (ci := 6) rfl (fs := [.null, .null, .null, .null, .int 0, .int 0, .int 0, .int 0, .int 0, .int 0, .int 0, .int 0]) (by intro j hj; match j, hj with | 0, _ => rfl | 1, _ => rfl | 2, _ => rfl | 3, _ => rfl | 4, _ => rfl | 5, _ => rfl | 6, _ => rfl | 7, _ => rfl | 8, _ => rfl | 9, _ => rfl | 10, _ => rfl | 11, _ => rfl) (show 1 + 23 * i + 1 ≤ 185 by omega) (show 8 + 175 * i + 12 ≤ 1408 by omega) dX2_init_26 (fun q H1 hP hD hS => ?_)
    rw [ft_snoc] at hP hD
    have hqs : sz ≤ q := ft_newq hD hF0 (by omega)
    have hsz1 : sz ≤ H1.size := Nat.le_trans hsz hS.1
    refine lv_dup hx hb dX2_init_29 rfl ?_
    refine va_callv (va_runI (As := []) (rest := [.ref q, .int (nI i), .ref (F 1)]) ⟨hx, hb, hml, hown, hts⟩ (c_X4_init l dC Z (fun _ => q) k H1.size) (cwI 0 hts gX2_init_X4_init rfl rfl rfl (hts (.initialized RX4) (by decide +kernel)) (hts (.methodLink RX2 17 yX4_init) (by decide +kernel)) (hts (.instanceMethod yX4_init) (by decide +kernel)) rfl (by decide +kernel) ⟨Nat.le_of_ble_eq_true rfl, Nat.le_of_ble_eq_true rfl⟩) (ft_preK1 (va_up_self _ _ _) (va_up_self _ _ _) hE hO hS (fun x h => ft_qA hqs hsz1 x h) hP hD) rfl rfl hl.1 rfl (lv_room (Nat.le_of_ble_eq_true rfl)) dX2_init_30 ⟨(show 1 + 23 * i + 1 + 22 ≤ 185 by omega), (show 8 + 175 * i + 12 + 163 ≤ 1408 by omega)⟩) hS (fun x _ h => ft_qA hqs hsz1 x h) (fun x h => ft_qA hqs hsz1 x h) (fun g t H2 locs2 ht hvm hw hB hz1 hk1 hS => ?_)
    obtain ⟨hg0, hBP, hBD⟩ := hB
    generalize hgg : g = g' at hBP hBD hg0
    rw [ht] at hBP
    have hW := ft_cH_go hP hD hk1 hBP hBD (fun x hx8 => Or.inr (Nat.le_trans hsz1 hx8))
    obtain ⟨F', hF', hF0', hFq⟩ : ∃ F', F' = ft_bl (2 + 23 * i) F g' ∧ F' 0 = ad 0 ∧ F' (2 + 23 * i) = q := ⟨_, rfl, (ft_bl_lo (by omega)).trans hF0, ft_bl_at.trans hg0⟩
    rw [← hF'] at hW
    obtain ⟨hP, hD⟩ := hW
    have hFp : F' 1 = F 1 := by rw [hF']; exact ft_bl_lo (by omega)
    have hF00 : F' 0 = F 0 := by rw [hF']; exact ft_bl_lo (by omega)
    have hev : ft_cH k i F' (2 + 23 * i) = (.inr (6, [.ref (F' (2 + 23 * i + 1)), .ref (F' (2 + 23 * i + 2)), .ref (F' (2 + 23 * i + 3)), .ref (F' (2 + 23 * i + 4)), .int 0, .int 0, .int 0, .int 1, .int 0, .int 0, .int 0, .int 0]) : va_E) := by
      unfold ft_cH
      rw [if_neg (by omega), show (2 + 23 * i - 2) / 23 = i by omega, show (2 + 23 * i - 2) % 23 = 0 by omega]
      rfl
    refine va_astq (ci := 6) (r := (RX4, TX4, 12)) hx hb hK.1 hP hD hS 1 2 (2 + 23 * i) (by rw [← hFp]; exact ft_get' (by omega) rfl) rfl (by rw [← hFq]; exact ft_get' (by omega) hev) rfl (vp_in_nI (by omega) (by decide)) dX2_init_33 (fun H3 locs3 hP hD hS => ?_)
    rw [← hFp, ft_cH_st (by omega) hFq] at hP hD
    refine lv_iinc (v := nI i + 1) (lv' := [(1, .int (nI i + 1)), (0, .ref (F 0))]) hx hb dX2_init_34 hl (k := 0) rfl rfl (by decide) rfl (fun ls hl => ?_)
    refine lv_goto (tgt := 15) hx hb dX2_init_37 (by decide) ?_
    refine W.widen (k := 1 + 23 * (i + 1)) (n := 8 + 175 * (i + 1)) (by omega) (by omega) ?_
    exact ih (i + 1) (by omega) F' _ _ _ hF0' hP hD hS (by rw [nI_1, ← hF00] at hl; exact hl)
  have hP : va_P dC vwCl (ft_W 2 (fun j => match j with | 0 => ad 0 | _ => q1) (ft_cH k 0 (fun j => match j with | 0 => ad 0 | _ => q1))) _ := ft_cast hP (ft_newH0 ad k q1)
  have hD := ft_castD hD (ft_newH0 ad k q1)
  exact loop 8 0 rfl (fun j => match j with | 0 => ad 0 | _ => q1) _ _ _ rfl hP hD hS hl

theorem ft_newC0 (ad : Nat → Nat) (k : Nat → ClassId) (Z : Nat → Nat → Nat) (q g q1 : Nat) : ([(ad 0, (.inr (5, [.ref q, .ref q1, .int 0, .int 0]) : va_E)), (q, .inr (1, [.ref g, .int 0, .int 0, .int 0])), (g, .inl (k 4, 16, .inl (fun _ => 0))), (q1, .inl (k 3, 15, .inr (.inr (.inr (.inr (fun _ => none))))))] : va_W) = ft_W 4 (fun j => match j with | 0 => ad 0 | 1 => q | 2 => g | _ => q1) (ft_cC k Z 0 (fun j => match j with | 0 => ad 0 | 1 => q | 2 => g | _ => q1)) := rfl
theorem ft_sbD {k : Nat → ClassId} {q g n : Nat} {u : ft_TB} (hg : n ≤ g) (hq : q < n) : va_D (ft_An 1 (fun _ => q) n) (ft_WB (va_up (fun _ => q) 1 g) k u) := by
  refine ⟨fun i j x y hx hy e => ?_, fun j x hx => ?_⟩
  · obtain ⟨hi, rfl⟩ := ft_of hx
    obtain ⟨hj, rfl⟩ := ft_of hy
    match i, j, hi, hj with
    | 0, 0, _, _ => rfl
    | 1, 1, _, _ => rfl
    | 0, 1, _, _ => have e : q = g := e; omega
    | 1, 0, _, _ => have e : g = q := e; omega
  · obtain ⟨hj, rfl⟩ := ft_of hx
    match j, hj with
    | 0, _ => exact Or.inl ⟨0, by decide, rfl⟩
    | 1, _ => exact Or.inr hg

set_option maxHeartbeats 4000000 in
set_option maxRecDepth 100000 in
theorem c_X3_init (l : Launch) (dC : va_G) (Z : Nat → Nat → Nat) (ad : Nat → Nat) (k : Nat → ClassId) (sz : Nat) : Met l yX3_init wsX3_init ({ frames := 3, cells := 33, slots := 110, locals := 110 }) (ft_Pk dC k Z (ft_An 1 ad sz) [.ref (ad 0)] (ft_W 1 ad (fun _ => .inr (5, [.null, .null, .int 0, .int 0]))) sz) (va_Qv (fun _ : Nat → Nat => True) (fun f t => f 0 = ad 0 ∧ va_P dC vwCl (ft_W 34 f (ft_cC k Z 15 f)) t.heap ∧ va_D (ft_An 1 ad sz) (ft_W 34 f (ft_cC k Z 15 f))) (ft_An 1 ad sz)) 33 110 (ft_An 1 ad sz) := by
  refine Met.ofW (cc := cX3_init) (maxL := 2) (ret := none) (by decide) rfl ?_
  intro p e s m args below meth c s₁ B hml hv
  obtain ⟨hargs, hP, hE, hD0, hsz, hO⟩ := hv
  have hK := hE.1
  subst hargs
  have hx := B.exec
  have hb := B.bytes
  have hr := B.returns
  have hin : meth.name = "<init>" := (name_of_methodNamed B.named B.method).1
  have hts := atoms_spec (ws := wsX3_init) B.pre
  have hown : s.vm.findClass RX3 = some m.cls := findClass_of_methodNamed B.named
  have hlocks := B.notSynchronized
  have hD : va_D (ft_An 1 ad sz) [(ad 0, (.inr (5, [.null, .null, .int 0, .int 0]) : va_E))] := (ft_D_self hD0).weaken (fun _ _ _ h => Or.inl h)
  have hP : va_P dC vwCl [(ad 0, (.inr (5, [.null, .null, .int 0, .int 0]) : va_E))] s.heap := hP
  have hS : va_S (ft_An 1 ad sz) s.heap s.heap [] := va_S.rf
  have hl := lv_entry ([.ref (ad 0)]) (n := 2) (Nat.le_of_ble_eq_true rfl)
  rw [lg_entry_eq]
  generalize (lg_sl ([.ref (ad 0)]) ++ List.replicate (2 - (lg_sl ([.ref (ad 0)])).length) Slot.unset).toArray = ls at hl ⊢
  have hl : lv_has ls 2 [(0, .ref (ad 0))] := hl
  refine lv_aload_n hx hb dX3_init_0 rfl (lv_at hl 0 rfl) ?_
  refine W.objInit hx hb hown (hts (.methodLink RX3 3 objectInit) (by decide +kernel)) (hts (.instanceMethod objectInit) (by decide +kernel)) (hts (.code objectInit ⟨#[0xb1]⟩ 1 none) (by decide +kernel)) rfl (by rw [hml]; exact hl.1) rfl dX3_init_1 (Nat.le_of_ble_eq_true rfl) (Nat.le_of_ble_eq_true rfl) ?_
  refine W.eq (g2 := F0 m 4 ls []) rfl ?_
  refine lv_aload_n hx hb dX3_init_4 rfl (lv_at hl 0 rfl) ?_
  refine va_new hx hb hts (by decide +kernel) tyJ4 tyJ4_ok hown (hts (.classLink RX3 9 RJ4) (by decide +kernel)) (hts (.instantiable RJ4 4) (by decide +kernel)) (hts (.initialized RJ4) (by decide +kernel)) hK.1 hP hD hS (fun z hz => Or.inr (Nat.le_trans hsz hz)) (ci := 1) rfl (fs := [.null, .int 0, .int 0, .int 0]) (by intro j hj; match j, hj with | 0, _ => rfl | 1, _ => rfl | 2, _ => rfl | 3, _ => rfl) (Nat.le_of_ble_eq_true rfl) (Nat.le_of_ble_eq_true rfl) dX3_init_5 (fun q H1 hP hD hS => ?_)
  have hP : va_P dC vwCl (ft_W (1 + 1) (va_up ad 1 q) (va_up (fun _ => .inr (5, [.null, .null, .int 0, .int 0])) 1 (.inr (1, [.null, .int 0, .int 0, .int 0])))) H1 := hP
  have hD : va_D (ft_An 1 ad sz) (ft_W (1 + 1) (va_up ad 1 q) (va_up (fun _ => .inr (5, [.null, .null, .int 0, .int 0])) 1 (.inr (1, [.null, .int 0, .int 0, .int 0])))) := hD
  have hqs : sz ≤ q := ft_newq hD rfl (by decide)
  have hsz1 : sz ≤ H1.size := Nat.le_trans hsz hS.1
  refine lv_dup hx hb dX3_init_8 rfl ?_
  refine va_callv (va_runI (As := []) (rest := [.ref q, .ref (ad 0)]) ⟨hx, hb, hml, hown, hts⟩ (c_J4_init_da8c8 l dC Z (fun _ => q) k H1.size) (cwI 0 hts gX3_init_J4_init_da8c8 rfl rfl rfl (hts (.initialized RJ4) (by decide +kernel)) (hts (.methodLink RX3 11 yJ4_init_da8c8) (by decide +kernel)) (hts (.instanceMethod yJ4_init_da8c8) (by decide +kernel)) rfl (by decide +kernel) ⟨Nat.le_of_ble_eq_true rfl, Nat.le_of_ble_eq_true rfl⟩) (ft_preKh1 (va_up_self _ _ _) (va_up_self _ _ _) hE hS (fun x h => ft_qA hqs hsz1 x h) hP hD) rfl rfl hl.1 rfl (lv_room (Nat.le_of_ble_eq_true rfl)) dX3_init_9 ⟨Nat.le_of_ble_eq_true rfl, Nat.le_of_ble_eq_true rfl⟩) hS (fun x _ h => ft_qA hqs hsz1 x h) (fun x h => ft_qA hqs hsz1 x h) (fun g t H2 locs2 ht hvm hw hB hz1 hk1 hS => ?_)
  obtain ⟨hBs, hBP⟩ := hB
  rw [ht] at hBP
  have hql : q < H1.size := (hP 1 _ (ft_get' (by decide) rfl)).lt
  have hBD : va_D (ft_An 1 (fun _ => q) H1.size) (ft_WB (va_up (fun _ => q) 1 g) k (0, 0, 16, fun _ => 0)) := ft_sbD hBs hql
  have hW := ft_app2 (n := 1) (m := 2) (f := va_up ad 1 q) (g := va_up (fun _ => q) 1 g) hP hD hk1 hBP hBD (fun x hx8 => Or.inr (Nat.le_trans hsz1 hx8))
  obtain ⟨hP, hD⟩ := hW
  have hP : va_P dC vwCl [(ad 0, (.inr (5, [.null, .null, .int 0, .int 0]) : va_E)), (q, .inr (1, [.ref g, .int 0, .int 0, .int 0])), (g, .inl (k 4, 16, .inl (fun _ => 0)))] H2 := hP
  have hD : va_D (ft_An 1 ad sz) [(ad 0, (.inr (5, [.null, .null, .int 0, .int 0]) : va_E)), (q, .inr (1, [.ref g, .int 0, .int 0, .int 0])), (g, .inl (k 4, 16, .inl (fun _ => 0)))] := hD
  refine va_putF (D := dC) (ci := 5) (v := .ref q) (ty := .object "java/lang/StringBuilder") (C := RX3) (T := TX3) (N := 4) hx hb hts (by decide +kernel) tyX3 tyX3_ok nmX3 hown hK.1 hP hD hS 0 rfl rfl 0 (by decide) (hts (.fieldLink RX3 12 "FoodTruckRota$Script" "text" "Ljava/lang/StringBuilder;") (by decide +kernel)) (fun _ h9 => h9) rfl hin rfl (by decide +kernel) rfl rfl (Nat.le_of_ble_eq_true rfl) dX3_init_12 (fun H locs hP hD hS => ?_)
  refine lv_aload_n hx hb dX3_init_15 rfl (lv_at hl 0 rfl) ?_
  refine lv_bipush (v := 15) hx hb dX3_init_16 (by decide) ?_
  refine va_newq (C := RX5) (N' := 15) hx hb hown (hts (.classLink RX3 18 RX5) (by decide +kernel)) hO.2.2 hK.1 hP hD hS (fun z hz => Or.inr (Nat.le_trans hsz hz)) (by decide) (by decide) (by decide) (Nat.le_of_ble_eq_true rfl) (Nat.le_of_ble_eq_true rfl) dX3_init_18 (fun q1 cA H1 hK1 hP hD hS => ?_)
  have ec : cA = k 3 := by
    obtain ⟨_, _, _, _, _, e5⟩ := (hK1.2 5 _ rfl).2
    obtain ⟨_, _, _, _, _, e1⟩ := (hK1.2 3 _ rfl).2
    exact Option.some.inj (e5.symm.trans e1)
  subst ec
  clear hK1
  refine va_putF (D := dC) (ci := 5) (v := .ref q1) (ty := .array (.object "FoodTruckRota$Step")) (C := RX3) (T := TX3) (N := 4) hx hb hts (by decide +kernel) tyX3 tyX3_ok nmX3 hown hK.1 hP hD hS 0 rfl rfl 1 (by decide) (hts (.fieldLink RX3 20 "FoodTruckRota$Script" "steps" "[LFoodTruckRota$Step;") (by decide +kernel)) (fun _ h9 => h9) rfl hin rfl (by decide +kernel) rfl rfl (Nat.le_of_ble_eq_true rfl) dX3_init_21 (fun H locs hP hD hS => ?_)
  refine lv_iconst (v := 0) hx hb dX3_init_24 (by decide) ?_
  refine lv_istore_n (lv' := [(1, .int 0), (0, .ref (ad 0))]) hx hb dX3_init_25 rfl hl (by decide) rfl (fun ls hl => ?_)
  have loop : ∀ (d i : Nat), i + d = 15 → ∀ (F : Nat → Nat) (H : Heap) (locs : List Loc) (ls : Array Slot), F 0 = ad 0 → va_P dC vwCl (ft_W (4 + 2 * i) F (ft_cC k Z i F)) H → va_D (ft_An 1 ad sz) (ft_W (4 + 2 * i) F (ft_cC k Z i F)) → va_S (ft_An 1 ad sz) s.heap H locs → lv_has ls 2 [(1, .int (nI i)), (0, .ref (F 0))] → W p l e (headSpec wsX3_init ({ frames := 3, cells := 33, slots := 110, locals := 110 })).room s m ([.ref (ad 0)] : List Value).toArray below meth c H locs (3 + 2 * i) (35 + 5 * i) (MQ below (va_Qv (fun _ : Nat → Nat => True) (fun f t => f 0 = ad 0 ∧ va_P dC vwCl (ft_W 34 f (ft_cC k Z 15 f)) t.heap ∧ va_D (ft_An 1 ad sz) (ft_W 34 f (ft_cC k Z 15 f))) (ft_An 1 ad sz)) ([.ref (ad 0)] : List Value).toArray s 33 110 (ft_An 1 ad sz)) (F0 m 26 ls []) := by
    intro d
    induction d with
    | zero =>
    intro i hi F H locs ls hF0 hP hD hS hl
    obtain rfl : i = 15 := by omega
    refine lv_iload_n hx hb dX3_init_26 rfl (lv_at hl 0 rfl) ?_
    refine lv_bipush (v := 15) hx hb dX3_init_27 (by decide) ?_
    refine lv_icmp_ge (tgt := 51) hx hb dX3_init_29 (by decide) (fun _ => ?_) (fun h9 => absurd (by decide) h9)
    exact W.vret hx hb hr (fun t2 ht2 hW => ⟨⟨F, rfl, trivial, hF0, ft_heap ht2 hP, hD⟩, hS.F ht2⟩) hS.2.2 dX3_init_51
    | succ d ih =>
    intro i hi F H locs ls hF0 hP hD hS hl
    refine lv_iload_n hx hb dX3_init_26 rfl (lv_at hl 0 rfl) ?_
    refine lv_bipush (v := 15) hx hb dX3_init_27 (by decide) ?_
    refine lv_icmp_ge (tgt := 51) hx hb dX3_init_29 (by decide) (fun h9 => absurd ((nI_leI (a := 15) (b := i) (by decide) (by omega)).mp h9) (by omega)) (fun _ => ?_)
    refine lv_aload_n hx hb dX3_init_32 rfl (lv_at hl 1 rfl) ?_
    refine va_get (D := dC) (ci := 5) (v := .ref (F 3)) (C := RX3) (T := TX3) (N := 4) hx hb hts (by decide +kernel) hown hK.1 hP 0 (ft_get' (by omega) rfl) rfl 1 (by decide) (hts (.fieldLink RX3 20 "FoodTruckRota$Script" "steps" "[LFoodTruckRota$Step;") (by decide +kernel)) (fun _ h9 => h9) rfl dX3_init_33 ?_
    refine lv_iload_n hx hb dX3_init_36 rfl (lv_at hl 0 rfl) ?_
    refine va_new hx hb hts (by decide +kernel) tyX5 tyX5_ok hown (hts (.classLink RX3 18 RX5) (by decide +kernel)) (hts (.instantiable RX5 2) (by decide +kernel)) (hts (.initialized RX5) (by decide +kernel)) hK.1 hP hD hS (fun z hz => Or.inr (Nat.le_trans hsz hz)) (ci := 7) rfl (fs := [.null, .null]) (by intro j hj; match j, hj with | 0, _ => rfl | 1, _ => rfl) (show 3 + 2 * i + 1 ≤ 33 by omega) (show 35 + 5 * i + 2 ≤ 110 by omega) dX3_init_37 (fun q H1 hP hD hS => ?_)
    rw [ft_snoc] at hP hD
    have hqs : sz ≤ q := ft_newq hD hF0 (by omega)
    have hsz1 : sz ≤ H1.size := Nat.le_trans hsz hS.1
    refine lv_dup hx hb dX3_init_40 rfl ?_
    refine va_callv (va_runIN (As := []) (rest := [.ref q, .int (nI i), .ref (F 3)]) ⟨hx, hb, hml, hown, hts⟩ (c_X5_init l dC Z (fun _ => q) k H1.size) ⟨va_cnB 0 hts gX3_init_X5_init_n24 rfl rfl rfl (ft_nm hK.2 1 rfl) (hts (.initialized RX5) (by decide +kernel)) (by decide +kernel) ⟨Nat.le_of_ble_eq_true rfl, Nat.le_of_ble_eq_true rfl⟩, rfl, hts (.instanceMethod yX5_init) (by decide +kernel)⟩ (ft_preKh1 (va_up_self _ _ _) (va_up_self _ _ _) hE hS (fun x h => ft_qA hqs hsz1 x h) hP hD) rfl rfl hl.1 rfl (lv_room (Nat.le_of_ble_eq_true rfl)) dX3_init_41 ⟨(show 3 + 2 * i + 1 + 1 ≤ 33 by omega), (show 35 + 5 * i + 2 + 3 ≤ 110 by omega)⟩) hS (fun x _ h => ft_qA hqs hsz1 x h) (fun x h => ft_qA hqs hsz1 x h) (fun g t H2 locs2 ht hvm hw hB hz1 hk1 hS => ?_)
    obtain ⟨-, hBP, hBD⟩ := hB
    have hBP : va_P dC vwCl (ft_W 2 (va_up (fun _ => q) 1 g) (fun x => ft_Q5 k (Z 0 0) (va_up (fun _ => q) 1 g 1) x)) t.heap := hBP
    have hBD : va_D (ft_An 1 (fun _ => q) H1.size) (ft_W 2 (va_up (fun _ => q) 1 g) (fun x => ft_Q5 k (Z 0 0) (va_up (fun _ => q) 1 g 1) x)) := hBD
    generalize hgg : va_up (fun _ => q) 1 g = g' at hBP hBD
    have hg0 : g' 0 = q := by rw [← hgg]; rfl
    rw [ht] at hBP
    have hW := ft_cC_go hP hD hk1 hBP hBD (fun x hx8 => Or.inr (Nat.le_trans hsz1 hx8))
    obtain ⟨F', hF', hF0', hFq⟩ : ∃ F', F' = ft_bl (4 + 2 * i) F g' ∧ F' 0 = ad 0 ∧ F' (4 + 2 * i) = q := ⟨_, rfl, (ft_bl_lo (by omega)).trans hF0, ft_bl_at.trans hg0⟩
    rw [← hF'] at hW
    obtain ⟨hP, hD⟩ := hW
    have hFp : F' 3 = F 3 := by rw [hF']; exact ft_bl_lo (by omega)
    have hF00 : F' 0 = F 0 := by rw [hF']; exact ft_bl_lo (by omega)
    have hev : ft_cC k Z i F' (4 + 2 * i) = (.inr (7, [.ref (Z 0 0), .ref (F' (4 + 2 * i + 1))]) : va_E) := by
      unfold ft_cC
      rw [if_neg (by omega), show (4 + 2 * i - 4) / 2 = i by omega, show (4 + 2 * i - 4) % 2 = 0 by omega]
      rfl
    refine va_astq (ci := 7) (r := (RX5, TX5, 2)) hx hb hK.1 hP hD hS 3 3 (4 + 2 * i) (by rw [← hFp]; exact ft_get' (by omega) rfl) rfl (by rw [← hFq]; exact ft_get' (by omega) hev) rfl (vp_in_nI (by omega) (by decide)) dX3_init_44 (fun H3 locs3 hP hD hS => ?_)
    rw [← hFp, ft_cC_st (by omega) hFq] at hP hD
    refine lv_iinc (v := nI i + 1) (lv' := [(1, .int (nI i + 1)), (0, .ref (F 0))]) hx hb dX3_init_45 hl (k := 0) rfl rfl (by decide) rfl (fun ls hl => ?_)
    refine lv_goto (tgt := 26) hx hb dX3_init_48 (by decide) ?_
    refine W.widen (k := 3 + 2 * (i + 1)) (n := 35 + 5 * (i + 1)) (by omega) (by omega) ?_
    exact ih (i + 1) (by omega) F' _ _ _ hF0' hP hD hS (by rw [nI_1, ← hF00] at hl; exact hl)
  have hP : va_P dC vwCl (ft_W 4 (fun j => match j with | 0 => ad 0 | 1 => q | 2 => g | _ => q1) (ft_cC k Z 0 (fun j => match j with | 0 => ad 0 | 1 => q | 2 => g | _ => q1))) _ := ft_cast hP (ft_newC0 ad k Z q g q1)
  have hD := ft_castD hD (ft_newC0 ad k Z q g q1)
  exact loop 15 0 rfl (fun j => match j with | 0 => ad 0 | 1 => q | 2 => g | _ => q1) _ _ _ rfl hP hD hS hl
