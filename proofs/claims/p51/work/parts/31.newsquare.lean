theorem ft_preK1 {D : va_G} {k : Nat → ClassId} {Z : Nat → Nat → Nat} {A B : Nat → Prop} {s : State} {H : Heap} {locs : List Loc} {n q : Nat} {f : Nat → Nat} {va : Nat → va_E} {e : va_E} {A' : Nat → Prop} (hq : f n = q) (he : va n = e) (hE : ft_E D k Z A s) (hO : ft_AO s) (hS : va_S A s.heap H locs) (hAB : ∀ q, B q → A q) (hP : va_P D vwCl (ft_W (n + 1) f va) H) (hD : va_D A' (ft_W (n + 1) f va)) : PreS s H (ft_Pk D k Z B [.ref q] (ft_W 1 (fun _ => q) (fun _ => e)) H.size) [.ref q] := by
  subst hq; subst he
  exact ft_preK hE hO hS hAB hP hD
theorem ft_preKg1 {D : va_G} {k : Nat → ClassId} {s : State} {H : Heap} {n q : Nat} {f : Nat → Nat} {va : Nat → va_E} {e : va_E} {A' : Nat → Prop} (hq : f n = q) (he : va n = e) (hK : ft_K D k s) (hP : va_P D vwCl (ft_W (n + 1) f va) H) (hD : va_D A' (ft_W (n + 1) f va)) : PreS s H (ft_Pg D k [.ref q] (ft_W 1 (fun _ => q) (fun _ => e)) H.size) [.ref q] := by
  subst hq; subst he
  exact ft_preKg hK hP hD
theorem ft_preKh1 {D : va_G} {k : Nat → ClassId} {Z : Nat → Nat → Nat} {A B : Nat → Prop} {s : State} {H : Heap} {locs : List Loc} {n q : Nat} {f : Nat → Nat} {va : Nat → va_E} {e : va_E} {A' : Nat → Prop} (hq : f n = q) (he : va n = e) (hE : ft_E D k Z A s) (hS : va_S A s.heap H locs) (hAB : ∀ q, B q → A q) (hP : va_P D vwCl (ft_W (n + 1) f va) H) (hD : va_D A' (ft_W (n + 1) f va)) : PreS s H (ft_Ph D k Z B [.ref q] (ft_W 1 (fun _ => q) (fun _ => e)) H.size) [.ref q] := by
  subst hq; subst he
  exact ft_preKh hE hS hAB hP hD
theorem ft_qA {ad : Nat → Nat} {sz q n : Nat} (hq : sz ≤ q) (hn : sz ≤ n) : ∀ x, ft_An 1 (fun _ => q) n x → ft_An 1 ad sz x := by
  intro x h
  rcases h with ⟨i, -, e⟩ | h
  · exact Or.inr (by have e : x = q := e; omega)
  · exact Or.inr (Nat.le_trans hn h)
theorem ft_newq {n sz q : Nat} {F ad : Nat → Nat} {V : Nat → va_E} (hD : va_D (ft_An 1 ad sz) (ft_W (n + 1) (va_up F n q) V)) (h0 : F 0 = ad 0) (hn : 0 < n) : sz ≤ q := by
  have h1 := hD.2 n _ (ft_get (by omega))
  have h1 : ft_An 1 ad sz (va_up F n q n) := h1
  rw [va_up_self] at h1
  rcases h1 with ⟨i, hi, e⟩ | h
  · obtain rfl : i = 0 := by omega
    have := hD.1 0 n _ _ (ft_get (by omega)) (ft_get (by omega)) (show va_up F n q 0 = va_up F n q n by rw [va_up_self, va_up_ne _ _ (by omega), h0, e])
    omega
  · exact h
theorem ft_bl_at {n : Nat} {f g : Nat → Nat} : ft_bl n f g n = g 0 := by
  have h := ft_bl_hi (n := n) (j := 0) (f := f) (g := g)
  exact h
theorem ft_preSd' {D : va_G} {k : Nat → ClassId} {s : State} {H : Heap} {As : List Value} {ws : va_W} {A : Nat → Prop} (hK : ft_K D k s) (hP : va_P D vwCl ws H) (hD : va_D A ws) : PreS s H (ft_Pd D k As ws) As := ⟨ft_Pd.blind, fun U hU hW => ⟨rfl, by rw [hU]; exact hP, hK.warm hW, hD.weaken (fun _ _ _ _ => trivial)⟩⟩

theorem ft_newS0 (ad : Nat → Nat) (k : Nat → ClassId) (q1 q2 q3 q4 : Nat) : ([(ad 0, (.inr (6, [.ref q1, .ref q2, .ref q3, .ref q4, .int 0, .int 0, .int 0, .int 1, .int 0, .int 0, .int 0, .int 0]) : va_E)), (q1, .inl (k 1, 6, .inr (.inr (.inr (.inr (fun _ => none)))))), (q2, .inl (k 0, 35, .inl (fun _ => 0))), (q3, .inl (k 0, 4, .inl (fun _ => 0))), (q4, .inl (k 0, 4, .inl (fun _ => 0)))] : va_W) = ft_W 5 (fun j => match j with | 0 => ad 0 | 1 => q1 | 2 => q2 | 3 => q3 | _ => q4) (ft_cS k 0 (fun j => match j with | 0 => ad 0 | 1 => q1 | 2 => q2 | 3 => q3 | _ => q4)) := rfl
theorem ft_newSq {D : va_G} {k : Nat → ClassId} {F : Nat → Nat} {H : Heap} (hP : va_P D vwCl (ft_W 23 F (va_up (va_up (ft_cS k 6 F) 2 (.inl (k 0, 35, .inl (ft_fl (fun _ => 0) (-1) 35)))) 3 (.inl (k 0, 4, .inl (ft_fl (fun _ => 0) 5 4))))) H) : va_P D vwCl (ft_WS F k ft_r0) H := by
  refine ft_P_im hP (fun j => j) (fun j hj => ⟨hj, fun h => ?_⟩)
  match j, hj with
  | 0, _ => exact ft_ate rfl rfl h
  | 1, _ => exact ft_atq rfl (fun j hj => if_pos hj) h
  | 2, _ =>
    refine ft_ate rfl ?_ h
    show (.inl (k 0, 35, .inl (ft_ar ft_r0 16 35)) : va_E) = .inl (k 0, 35, .inl (ft_fl (fun _ => 0) (-1) 35))
    refine congrArg (fun f => (.inl (k 0, 35, .inl f) : va_E)) (funext fun x => ?_)
    unfold ft_ar ft_fl
    by_cases hx : x < 35
    · rw [if_pos hx, if_pos hx]
      unfold ft_r0
      rw [if_neg (by omega), if_neg (by omega), if_pos (by omega)]
    · rw [if_neg hx, if_neg hx]
  | 3, _ =>
    refine ft_ate rfl ?_ h
    show (.inl (k 0, 4, .inl (ft_ar ft_r0 8 4)) : va_E) = .inl (k 0, 4, .inl (ft_fl (fun _ => 0) 5 4))
    refine congrArg (fun f => (.inl (k 0, 4, .inl f) : va_E)) (funext fun x => ?_)
    unfold ft_ar ft_fl
    by_cases hx : x < 4
    · rw [if_pos hx, if_pos hx]
      unfold ft_r0
      rw [if_neg (by omega), if_pos (by omega)]
    · rw [if_neg hx, if_neg hx]
  | 4, _ =>
    refine ft_ate rfl ?_ h
    show (.inl (k 0, 4, .inl (ft_ar ft_r0 12 4)) : va_E) = .inl (k 0, 4, .inl (fun _ => 0))
    refine congrArg (fun f => (.inl (k 0, 4, .inl f) : va_E)) (funext fun x => ?_)
    unfold ft_ar
    by_cases hx : x < 4
    · rw [if_pos hx]
      unfold ft_r0
      rw [if_neg (by omega), if_neg (by omega), if_neg (by omega)]
    · rw [if_neg hx]
  | j + 5, hj =>
    refine ft_ate rfl ?_ h
    rw [va_up_ne _ _ (by omega), va_up_ne _ _ (by omega)]
    unfold ft_cS
    rw [if_neg (by omega)]
    show ft_T (ft_at F (j / 3)) k ft_r0 (51 + 17 * (j / 3)) (j % 3) = _
    rw [show j + 5 - 5 = j by omega]
    exact ft_T_sh (fun y hy => by unfold ft_r0; rw [if_neg (by omega), if_neg (by omega), if_neg (by omega)])

set_option maxHeartbeats 4000000 in
set_option maxRecDepth 100000 in
theorem c_X4_init (l : Launch) (dC : va_G) (Z : Nat → Nat → Nat) (ad : Nat → Nat) (k : Nat → ClassId) (sz : Nat) : Met l yX4_init wsX4_init ({ frames := 2, cells := 22, slots := 163, locals := 80 }) (ft_Pk dC k Z (ft_An 1 ad sz) [.ref (ad 0)] (ft_W 1 ad (fun _ => .inr (6, [.null, .null, .null, .null, .int 0, .int 0, .int 0, .int 0, .int 0, .int 0, .int 0, .int 0]))) sz) (va_Qv (fun _ : Nat → Nat => True) (fun f t => f 0 = ad 0 ∧ va_P dC vwCl (ft_WS f k ft_r0) t.heap ∧ va_D (ft_An 1 ad sz) (ft_WS f k ft_r0)) (ft_An 1 ad sz)) 22 163 (ft_An 1 ad sz) := by
  refine Met.ofW (cc := cX4_init) (maxL := 2) (ret := none) (by decide) rfl ?_
  intro p e s m args below meth c s₁ B hml hv
  obtain ⟨hargs, hP, hE, hD0, hsz, hO⟩ := hv
  have hK := hE.1
  subst hargs
  have hx := B.exec
  have hb := B.bytes
  have hr := B.returns
  have hin : meth.name = "<init>" := (name_of_methodNamed B.named B.method).1
  have hts := atoms_spec (ws := wsX4_init) B.pre
  have hown : s.vm.findClass RX4 = some m.cls := findClass_of_methodNamed B.named
  have hlocks := B.notSynchronized
  have hD : va_D (ft_An 1 ad sz) [(ad 0, (.inr (6, [.null, .null, .null, .null, .int 0, .int 0, .int 0, .int 0, .int 0, .int 0, .int 0, .int 0]) : va_E))] := (ft_D_self hD0).weaken (fun _ _ _ h => Or.inl h)
  have hP : va_P dC vwCl [(ad 0, (.inr (6, [.null, .null, .null, .null, .int 0, .int 0, .int 0, .int 0, .int 0, .int 0, .int 0, .int 0]) : va_E))] s.heap := hP
  have hS : va_S (ft_An 1 ad sz) s.heap s.heap [] := va_S.rf
  have hl := lv_entry ([.ref (ad 0)]) (n := 2) (Nat.le_of_ble_eq_true rfl)
  rw [lg_entry_eq]
  generalize (lg_sl ([.ref (ad 0)]) ++ List.replicate (2 - (lg_sl ([.ref (ad 0)])).length) Slot.unset).toArray = ls at hl ⊢
  have hl : lv_has ls 2 [(0, .ref (ad 0))] := hl
  refine lv_aload_n hx hb dX4_init_0 rfl (lv_at hl 0 rfl) ?_
  refine W.objInit hx hb hown (hts (.methodLink RX4 3 objectInit) (by decide +kernel)) (hts (.instanceMethod objectInit) (by decide +kernel)) (hts (.code objectInit ⟨#[0xb1]⟩ 1 none) (by decide +kernel)) rfl (by rw [hml]; exact hl.1) rfl dX4_init_1 (Nat.le_of_ble_eq_true rfl) (Nat.le_of_ble_eq_true rfl) ?_
  refine W.eq (g2 := F0 m 4 ls []) rfl ?_
  refine lv_aload_n hx hb dX4_init_4 rfl (lv_at hl 0 rfl) ?_
  refine lv_bipush (v := 6) hx hb dX4_init_5 (by decide) ?_
  refine va_newq (C := RX6) (N' := 6) hx hb hown (hts (.classLink RX4 9 RX6) (by decide +kernel)) hO.1 hK.1 hP hD hS (fun z hz => Or.inr (Nat.le_trans hsz hz)) (by decide) (by decide) (by decide) (Nat.le_of_ble_eq_true rfl) (Nat.le_of_ble_eq_true rfl) dX4_init_7 (fun q1 cA H1 hK1 hP hD hS => ?_)
  have ec : cA = k 1 := by
    obtain ⟨_, _, _, _, _, e5⟩ := (hK1.2 5 _ rfl).2
    obtain ⟨_, _, _, _, _, e1⟩ := (hK1.2 1 _ rfl).2
    exact Option.some.inj (e5.symm.trans e1)
  subst ec
  clear hK1
  refine va_putF (D := dC) (ci := 6) (v := .ref q1) (ty := .array (.object "FoodTruckRota$Truck")) (C := RX4) (T := TX4) (N := 12) hx hb hts (by decide +kernel) tyX4 tyX4_ok nmX4 hown hK.1 hP hD hS 0 rfl rfl 0 (by decide) (hts (.fieldLink RX4 11 "FoodTruckRota$Square" "trucks" "[LFoodTruckRota$Truck;") (by decide +kernel)) (fun _ h9 => h9) rfl hin rfl (by decide +kernel) rfl rfl (Nat.le_of_ble_eq_true rfl) dX4_init_10 (fun H locs hP hD hS => ?_)
  refine lv_aload_n hx hb dX4_init_13 rfl (lv_at hl 0 rfl) ?_
  refine lv_bipush (v := 35) hx hb dX4_init_14 (by decide) ?_
  refine va_newa (atype := .int) (ty := .int) (N' := 35) (a0 := (35, .inl (fun _ => 0))) hx hb (hts (.arrayClass .int) (by decide +kernel)) rfl hK.1 hP hD hS (fun z hz => Or.inr (Nat.le_trans hsz hz)) (fun _ => rfl) (by decide) (by decide) (by decide) (Nat.le_of_ble_eq_true rfl) (Nat.le_of_ble_eq_true rfl) dX4_init_16 (fun q2 cA H1 hK1 hP hD hS => ?_)
  have ec : cA = k 0 := Option.some.inj ((hK1.2 5 _ rfl).2.symm.trans (hK1.2 0 _ rfl).2)
  subst ec
  clear hK1
  refine va_putF (D := dC) (ci := 6) (v := .ref q2) (ty := .array .int) (C := RX4) (T := TX4) (N := 12) hx hb hts (by decide +kernel) tyX4 tyX4_ok nmX4 hown hK.1 hP hD hS 0 rfl rfl 1 (by decide) (hts (.fieldLink RX4 17 "FoodTruckRota$Square" "holders" "[I") (by decide +kernel)) (fun _ h9 => h9) rfl hin rfl (by decide +kernel) rfl rfl (Nat.le_of_ble_eq_true rfl) dX4_init_18 (fun H locs hP hD hS => ?_)
  refine lv_aload_n hx hb dX4_init_21 rfl (lv_at hl 0 rfl) ?_
  refine lv_iconst (v := 4) hx hb dX4_init_22 (by decide) ?_
  refine va_newa (atype := .int) (ty := .int) (N' := 4) (a0 := (4, .inl (fun _ => 0))) hx hb (hts (.arrayClass .int) (by decide +kernel)) rfl hK.1 hP hD hS (fun z hz => Or.inr (Nat.le_trans hsz hz)) (fun _ => rfl) (by decide) (by decide) (by decide) (Nat.le_of_ble_eq_true rfl) (Nat.le_of_ble_eq_true rfl) dX4_init_23 (fun q3 cA H1 hK1 hP hD hS => ?_)
  have ec : cA = k 0 := Option.some.inj ((hK1.2 5 _ rfl).2.symm.trans (hK1.2 0 _ rfl).2)
  subst ec
  clear hK1
  refine va_putF (D := dC) (ci := 6) (v := .ref q3) (ty := .array .int) (C := RX4) (T := TX4) (N := 12) hx hb hts (by decide +kernel) tyX4 tyX4_ok nmX4 hown hK.1 hP hD hS 0 rfl rfl 2 (by decide) (hts (.fieldLink RX4 21 "FoodTruckRota$Square" "prices" "[I") (by decide +kernel)) (fun _ h9 => h9) rfl hin rfl (by decide +kernel) rfl rfl (Nat.le_of_ble_eq_true rfl) dX4_init_25 (fun H locs hP hD hS => ?_)
  refine lv_aload_n hx hb dX4_init_28 rfl (lv_at hl 0 rfl) ?_
  refine lv_iconst (v := 4) hx hb dX4_init_29 (by decide) ?_
  refine va_newa (atype := .int) (ty := .int) (N' := 4) (a0 := (4, .inl (fun _ => 0))) hx hb (hts (.arrayClass .int) (by decide +kernel)) rfl hK.1 hP hD hS (fun z hz => Or.inr (Nat.le_trans hsz hz)) (fun _ => rfl) (by decide) (by decide) (by decide) (Nat.le_of_ble_eq_true rfl) (Nat.le_of_ble_eq_true rfl) dX4_init_30 (fun q4 cA H1 hK1 hP hD hS => ?_)
  have ec : cA = k 0 := Option.some.inj ((hK1.2 5 _ rfl).2.symm.trans (hK1.2 0 _ rfl).2)
  subst ec
  clear hK1
  refine va_putF (D := dC) (ci := 6) (v := .ref q4) (ty := .array .int) (C := RX4) (T := TX4) (N := 12) hx hb hts (by decide +kernel) tyX4 tyX4_ok nmX4 hown hK.1 hP hD hS 0 rfl rfl 3 (by decide) (hts (.fieldLink RX4 24 "FoodTruckRota$Square" "sold" "[I") (by decide +kernel)) (fun _ h9 => h9) rfl hin rfl (by decide +kernel) rfl rfl (Nat.le_of_ble_eq_true rfl) dX4_init_32 (fun H locs hP hD hS => ?_)
  refine lv_aload_n hx hb dX4_init_35 rfl (lv_at hl 0 rfl) ?_
  refine lv_iconst (v := 1) hx hb dX4_init_36 (by decide) ?_
  refine va_put (D := dC) (ci := 6) (v := .int 1) (ty := .int) (C := RX4) (T := TX4) (N := 12) hx hb hts (by decide +kernel) tyX4 tyX4_ok nmX4 hown hK.1 hP hD hS 0 rfl rfl 7 (by decide) (hts (.fieldLink RX4 27 "FoodTruckRota$Square" "customersPerMinute" "I") (by decide +kernel)) (fun _ h9 => h9) rfl (by decide +kernel) rfl rfl (Nat.le_of_ble_eq_true rfl) dX4_init_37 (fun H locs hP hD hS => ?_)
  refine lv_iconst (v := 0) hx hb dX4_init_40 (by decide) ?_
  refine lv_istore_n (lv' := [(1, .int 0), (0, .ref (ad 0))]) hx hb dX4_init_41 rfl hl (by decide) rfl (fun ls hl => ?_)
  have loop : ∀ (d i : Nat), i + d = 6 → ∀ (F : Nat → Nat) (H : Heap) (locs : List Loc) (ls : Array Slot), F 0 = ad 0 → va_P dC vwCl (ft_W (5 + 3 * i) F (ft_cS k i F)) H → va_D (ft_An 1 ad sz) (ft_W (5 + 3 * i) F (ft_cS k i F)) → va_S (ft_An 1 ad sz) s.heap H locs → lv_has ls 2 [(1, .int (nI i)), (0, .ref (F 0))] → W p l e (headSpec wsX4_init ({ frames := 2, cells := 22, slots := 163, locals := 80 })).room s m ([.ref (ad 0)] : List Value).toArray below meth c H locs (4 + 3 * i) (49 + 19 * i) (MQ below (va_Qv (fun _ : Nat → Nat => True) (fun f t => f 0 = ad 0 ∧ va_P dC vwCl (ft_WS f k ft_r0) t.heap ∧ va_D (ft_An 1 ad sz) (ft_WS f k ft_r0)) (ft_An 1 ad sz)) ([.ref (ad 0)] : List Value).toArray s 22 163 (ft_An 1 ad sz)) (F0 m 42 ls []) := by
    intro d
    induction d with
    | zero =>
    intro i hi F H locs ls hF0 hP hD hS hl
    obtain rfl : i = 6 := by omega
    refine lv_iload_n hx hb dX4_init_42 rfl (lv_at hl 0 rfl) ?_
    refine lv_bipush (v := 6) hx hb dX4_init_43 (by decide) ?_
    refine lv_icmp_ge (tgt := 67) hx hb dX4_init_45 (by decide) (fun _ => ?_) (fun h9 => absurd (by decide) h9)
    have hP : va_P dC vwCl (ft_W 23 F (ft_cS k 6 F)) H := hP
    have hD : va_D (ft_An 1 ad sz) (ft_W 23 F (ft_cS k 6 F)) := hD
    refine lv_aload_n hx hb dX4_init_67 rfl (lv_at hl 1 rfl) ?_
    refine va_get (D := dC) (ci := 6) (v := .ref (F 2)) (C := RX4) (T := TX4) (N := 12) hx hb hts (by decide +kernel) hown hK.1 hP 0 (ft_get' (by decide) rfl) rfl 1 (by decide) (hts (.fieldLink RX4 17 "FoodTruckRota$Square" "holders" "[I") (by decide +kernel)) (fun _ h9 => h9) rfl dX4_init_68 ?_
    refine lv_iconst (v := (-1)) hx hb dX4_init_71 (by decide) ?_
    refine va_callv (va_runS (As := [.ref (F 2), .int (-1)]) (rest := []) ⟨hx, hb, hml, hown, hts⟩ (c_J7_fill_53178 l dC (fun _ => F 2) k (35, fun _ => 0) (-1) (by decide)) (va_cwS 2 hts gX4_init_J7_fill_53178 rfl rfl rfl (by decide +kernel) ⟨Nat.le_of_ble_eq_true rfl, Nat.le_of_ble_eq_true rfl⟩) (ft_preSd' hK (ft_P_sub (m := 1) (ad' := fun _ => F 2) (va' := ft_I k (35, fun _ => 0)) hP (fun _ => 2) (fun _ _ => by decide) (fun _ _ => rfl) (fun _ _ => rfl)) (ft_D_sub (m := 1) (ad' := fun _ => F 2) (va' := ft_I k (35, fun _ => 0)) hD (fun _ => 2) (fun _ _ => by decide) (fun i j hi hj _ => by omega) (fun _ _ => rfl))) rfl rfl hl.1 rfl (lv_room (Nat.le_of_ble_eq_true rfl)) dX4_init_72 ⟨Nat.le_of_ble_eq_true rfl, Nat.le_of_ble_eq_true rfl⟩) hS (fun x _ h => ft_D_A hD (m := 1) (ad' := fun _ => F 2) (fun _ => 2) (fun _ _ => by decide) (fun _ _ => rfl) x h) (fun x h => ft_D_A hD (m := 1) (ad' := fun _ => F 2) (fun _ => 2) (fun _ _ => by decide) (fun _ _ => rfl) x h) (fun g t H2 locs2 ht hvm hw hB hz1 hk1 hS => ?_)
    rw [ht] at hB
    subst hw
    have hP : va_P dC vwCl (ft_W 23 F (va_up (ft_cS k 6 F) 2 (.inl (k 0, 35, .inl (ft_fl (fun _ => 0) (-1) 35))))) H2 := ft_join hP hD (fun _ => 2) (fun _ _ => by decide) (fun _ _ => rfl) hk1 hB (fun j hj => by rw [va_up_self]; rfl) (fun j _ hne => va_up_ne _ _ (fun e => hne 0 (by decide) e.symm))
    have hD : va_D (ft_An 1 ad sz) (ft_W 23 F (va_up (ft_cS k 6 F) 2 (.inl (k 0, 35, .inl (ft_fl (fun _ => 0) (-1) 35))))) := ft_D_va hD _
    refine lv_aload_n hx hb dX4_init_75 rfl (lv_at hl 1 rfl) ?_
    refine va_get (D := dC) (ci := 6) (v := .ref (F 3)) (C := RX4) (T := TX4) (N := 12) hx hb hts (by decide +kernel) hown hK.1 hP 0 (ft_get' (by decide) rfl) rfl 2 (by decide) (hts (.fieldLink RX4 21 "FoodTruckRota$Square" "prices" "[I") (by decide +kernel)) (fun _ h9 => h9) rfl dX4_init_76 ?_
    refine lv_iconst (v := 5) hx hb dX4_init_79 (by decide) ?_
    refine va_callv (va_runS (As := [.ref (F 3), .int 5]) (rest := []) ⟨hx, hb, hml, hown, hts⟩ (c_J7_fill_53178 l dC (fun _ => F 3) k (4, fun _ => 0) 5 (by decide)) (va_cwS 2 hts gX4_init_J7_fill_53178 rfl rfl rfl (by decide +kernel) ⟨Nat.le_of_ble_eq_true rfl, Nat.le_of_ble_eq_true rfl⟩) (ft_preSd' hK (ft_P_sub (m := 1) (ad' := fun _ => F 3) (va' := ft_I k (4, fun _ => 0)) hP (fun _ => 3) (fun _ _ => by decide) (fun _ _ => rfl) (fun _ _ => rfl)) (ft_D_sub (m := 1) (ad' := fun _ => F 3) (va' := ft_I k (4, fun _ => 0)) hD (fun _ => 3) (fun _ _ => by decide) (fun i j hi hj _ => by omega) (fun _ _ => rfl))) rfl rfl hl.1 rfl (lv_room (Nat.le_of_ble_eq_true rfl)) dX4_init_80 ⟨Nat.le_of_ble_eq_true rfl, Nat.le_of_ble_eq_true rfl⟩) hS (fun x _ h => ft_D_A hD (m := 1) (ad' := fun _ => F 3) (fun _ => 3) (fun _ _ => by decide) (fun _ _ => rfl) x h) (fun x h => ft_D_A hD (m := 1) (ad' := fun _ => F 3) (fun _ => 3) (fun _ _ => by decide) (fun _ _ => rfl) x h) (fun g t H3 locs3 ht hvm hw hB hz1 hk1 hS => ?_)
    rw [ht] at hB
    subst hw
    have hP : va_P dC vwCl (ft_W 23 F (va_up (va_up (ft_cS k 6 F) 2 (.inl (k 0, 35, .inl (ft_fl (fun _ => 0) (-1) 35)))) 3 (.inl (k 0, 4, .inl (ft_fl (fun _ => 0) 5 4))))) H3 := ft_join hP hD (fun _ => 3) (fun _ _ => by decide) (fun _ _ => rfl) hk1 hB (fun j hj => by rw [va_up_self]; rfl) (fun j _ hne => va_up_ne _ _ (fun e => hne 0 (by decide) e.symm))
    have hD : va_D (ft_An 1 ad sz) (ft_W 23 F (va_up (va_up (ft_cS k 6 F) 2 (.inl (k 0, 35, .inl (ft_fl (fun _ => 0) (-1) 35)))) 3 (.inl (k 0, 4, .inl (ft_fl (fun _ => 0) 5 4))))) := ft_D_va hD _
    exact W.vret hx hb hr (fun t2 ht2 hW => ⟨⟨F, rfl, trivial, hF0, ft_heap ht2 (ft_newSq hP), ft_D_va hD _⟩, hS.F ht2⟩) hS.2.2 dX4_init_83
    | succ d ih =>
    intro i hi F H locs ls hF0 hP hD hS hl
    refine lv_iload_n hx hb dX4_init_42 rfl (lv_at hl 0 rfl) ?_
    refine lv_bipush (v := 6) hx hb dX4_init_43 (by decide) ?_
    refine lv_icmp_ge (tgt := 67) hx hb dX4_init_45 (by decide) (fun h9 => absurd ((nI_leI (a := 6) (b := i) (by decide) (by omega)).mp h9) (by omega)) (fun _ => ?_)
    refine lv_aload_n hx hb dX4_init_48 rfl (lv_at hl 1 rfl) ?_
    refine va_get (D := dC) (ci := 6) (v := .ref (F 1)) (C := RX4) (T := TX4) (N := 12) hx hb hts (by decide +kernel) hown hK.1 hP 0 (ft_get' (by omega) rfl) rfl 0 (by decide) (hts (.fieldLink RX4 11 "FoodTruckRota$Square" "trucks" "[LFoodTruckRota$Truck;") (by decide +kernel)) (fun _ h9 => h9) rfl dX4_init_49 ?_
    refine lv_iload_n hx hb dX4_init_52 rfl (lv_at hl 0 rfl) ?_
    refine va_new hx hb hts (by decide +kernel) tyX6 tyX6_ok hown (hts (.classLink RX4 9 RX6) (by decide +kernel)) (hts (.instantiable RX6 6) (by decide +kernel)) (hts (.initialized RX6) (by decide +kernel)) hK.1 hP hD hS (fun z hz => Or.inr (Nat.le_trans hsz hz)) (ci := 8) rfl (fs := [.null, .null, .int 0, .int 0, .int 0, .int 0]) (by intro j hj; match j, hj with | 0, _ => rfl | 1, _ => rfl | 2, _ => rfl | 3, _ => rfl | 4, _ => rfl | 5, _ => rfl) (show 4 + 3 * i + 1 ≤ 22 by omega) (show 49 + 19 * i + 6 ≤ 163 by omega) dX4_init_53 (fun q H1 hP hD hS => ?_)
    rw [ft_snoc] at hP hD
    have hqs : sz ≤ q := ft_newq hD hF0 (by omega)
    have hsz1 : sz ≤ H1.size := Nat.le_trans hsz hS.1
    refine lv_dup hx hb dX4_init_56 rfl ?_
    refine va_callv (va_runIN (As := []) (rest := [.ref q, .int (nI i), .ref (F 1)]) ⟨hx, hb, hml, hown, hts⟩ (c_X6_init l dC (fun _ => q) k H1.size) ⟨va_cnB 0 hts gX4_init_X6_init_n31 rfl rfl rfl (ft_nm hK.2 0 rfl) (hts (.initialized RX6) (by decide +kernel)) (by decide +kernel) ⟨Nat.le_of_ble_eq_true rfl, Nat.le_of_ble_eq_true rfl⟩, rfl, hts (.instanceMethod yX6_init) (by decide +kernel)⟩ (ft_preKg1 (va_up_self _ _ _) (va_up_self _ _ _) hK hP hD) rfl rfl hl.1 rfl (lv_room (Nat.le_of_ble_eq_true rfl)) dX4_init_57 ⟨(show 4 + 3 * i + 1 + 2 ≤ 22 by omega), (show 49 + 19 * i + 6 + 13 ≤ 163 by omega)⟩) hS (fun x _ h => ft_qA hqs hsz1 x h) (fun x h => ft_qA hqs hsz1 x h) (fun g t H2 locs2 ht hvm hw hB hz1 hk1 hS => ?_)
    obtain ⟨-, -, hBP, hBD⟩ := hB
    generalize hgg : va_up (va_up (fun _ => q) 1 g.1) 2 g.2 = g' at hBP hBD
    have hg0 : g' 0 = q := by rw [← hgg]; rfl
    rw [ht] at hBP
    have hW := ft_cS_go hP hD hk1 hBP hBD (fun x hx8 => Or.inr (Nat.le_trans hsz1 hx8))
    obtain ⟨F', hF', hF0', hFq⟩ : ∃ F', F' = ft_bl (5 + 3 * i) F g' ∧ F' 0 = ad 0 ∧ F' (5 + 3 * i) = q := ⟨_, rfl, (ft_bl_lo (by omega)).trans hF0, ft_bl_at.trans hg0⟩
    rw [← hF'] at hW
    obtain ⟨hP, hD⟩ := hW
    have hFp : F' 1 = F 1 := by rw [hF']; exact ft_bl_lo (by omega)
    have hF00 : F' 0 = F 0 := by rw [hF']; exact ft_bl_lo (by omega)
    have hev : ft_cS k i F' (5 + 3 * i) = (.inr (8, [.ref (F' (5 + 3 * i + 1)), .ref (F' (5 + 3 * i + 2)), .int 0, .int 0, .int 0, .int 0]) : va_E) := by
      unfold ft_cS
      rw [if_neg (by omega), show (5 + 3 * i - 5) / 3 = i by omega, show (5 + 3 * i - 5) % 3 = 0 by omega]
      rfl
    refine va_astq (ci := 8) (r := (RX6, TX6, 6)) hx hb hK.1 hP hD hS 1 1 (5 + 3 * i) (by rw [← hFp]; exact ft_get' (by omega) rfl) rfl (by rw [← hFq]; exact ft_get' (by omega) hev) rfl (vp_in_nI (by omega) (by decide)) dX4_init_60 (fun H3 locs3 hP hD hS => ?_)
    rw [← hFp, ft_cS_st (by omega) hFq] at hP hD
    refine lv_iinc (v := nI i + 1) (lv' := [(1, .int (nI i + 1)), (0, .ref (F 0))]) hx hb dX4_init_61 hl (k := 0) rfl rfl (by decide) rfl (fun ls hl => ?_)
    refine lv_goto (tgt := 42) hx hb dX4_init_64 (by decide) ?_
    refine W.widen (k := 4 + 3 * (i + 1)) (n := 49 + 19 * (i + 1)) (by omega) (by omega) ?_
    exact ih (i + 1) (by omega) F' _ _ _ hF0' hP hD hS (by rw [nI_1, ← hF00] at hl; exact hl)
  have hP : va_P dC vwCl (ft_W 5 (fun j => match j with | 0 => ad 0 | 1 => q1 | 2 => q2 | 3 => q3 | _ => q4) (ft_cS k 0 (fun j => match j with | 0 => ad 0 | 1 => q1 | 2 => q2 | 3 => q3 | _ => q4))) _ := ft_cast hP (ft_newS0 ad k q1 q2 q3 q4)
  have hD := ft_castD hD (ft_newS0 ad k q1 q2 q3 q4)
  exact loop 6 0 rfl (fun j => match j with | 0 => ad 0 | 1 => q1 | 2 => q2 | 3 => q3 | _ => q4) _ _ _ rfl hP hD hS hl
