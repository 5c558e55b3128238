/-! a new Truck -/
theorem ft_ar0 (o n : Nat) : (fun _ => 0 : Nat → Int32) = ft_ar (fun _ => 0) o n := by
  funext j
  unfold ft_ar
  split <;> rfl
theorem ft_newT (ad : Nat → Nat) (k : Nat → ClassId) (q1 q2 : Nat) : ([(ad 0, (.inr (8, [.ref q1, .ref q2, .int 0, .int 0, .int 0, .int 0]) : va_E)), (q1, .inl (k 0, 4, .inl (fun _ => 0))), (q2, .inl (k 0, 9, .inl (fun _ => 0)))] : va_W) = ft_WT (va_up (va_up ad 1 q1) 2 q2) k (fun _ => 0) 0 := by
  show _ = [(ad 0, (.inr (8, [.ref q1, .ref q2, .int 0, .int 0, .int 0, .int 0]) : va_E)), (q1, .inl (k 0, 4, .inl (ft_ar (fun _ => 0) (0 + 4) 4))), (q2, .inl (k 0, 9, .inl (ft_ar (fun _ => 0) (0 + 8) 9)))]
  rw [← ft_ar0, ← ft_ar0]
set_option maxHeartbeats 4000000 in
set_option maxRecDepth 100000 in
theorem c_X6_init (l : Launch) (dC : va_G) (ad : Nat → Nat) (k : Nat → ClassId) (sz : Nat) : Met l yX6_init wsX6_init ({ frames := 1, cells := 2, slots := 13, locals := 40 }) (ft_Pg dC k [.ref (ad 0)] (ft_W 1 ad (fun _ => .inr (8, [.null, .null, .int 0, .int 0, .int 0, .int 0]))) sz) (va_Qv (fun _ : Nat × Nat => True) (fun v t => sz ≤ v.1 ∧ sz ≤ v.2 ∧ va_P dC vwCl (ft_WT (va_up (va_up ad 1 v.1) 2 v.2) k (fun _ => 0) 0) t.heap ∧ va_D (ft_An 1 ad sz) (ft_WT (va_up (va_up ad 1 v.1) 2 v.2) k (fun _ => 0) 0)) (ft_An 1 ad sz)) 2 13 (ft_An 1 ad sz) := by
  refine Met.ofW (cc := cX6_init) (maxL := 1) (ret := none) (by decide) rfl ?_
  intro p e s m args below meth c s₁ B hml hv
  obtain ⟨hargs, hP, hK, hD0, hsz⟩ := hv
  subst hargs
  have hx := B.exec
  have hb := B.bytes
  have hr := B.returns
  have hin : meth.name = "<init>" := (name_of_methodNamed B.named B.method).1
  have hts := atoms_spec (ws := wsX6_init) B.pre
  have hown : s.vm.findClass RX6 = some m.cls := findClass_of_methodNamed B.named
  have hlocks := B.notSynchronized
  have hD : va_D (ft_An 1 ad sz) [(ad 0, (.inr (8, [.null, .null, .int 0, .int 0, .int 0, .int 0]) : va_E))] := (ft_D_self hD0).weaken (fun _ _ _ h => Or.inl h)
  have hP : va_P dC vwCl [(ad 0, (.inr (8, [.null, .null, .int 0, .int 0, .int 0, .int 0]) : va_E))] s.heap := hP
  have hS : va_S (ft_An 1 ad sz) s.heap s.heap [] := va_S.rf
  have hl := lv_entry ([.ref (ad 0)]) (n := 1) (Nat.le_of_ble_eq_true rfl)
  rw [lg_entry_eq]
  generalize (lg_sl ([.ref (ad 0)]) ++ List.replicate (1 - (lg_sl ([.ref (ad 0)])).length) Slot.unset).toArray = ls at hl ⊢
  have hl : lv_has ls 1 [(0, .ref (ad 0))] := hl
  refine lv_aload_n hx hb dX6_init_0 rfl (lv_at hl 0 rfl) ?_
  refine W.objInit hx hb hown (hts (.methodLink RX6 3 objectInit) (by decide +kernel)) (hts (.instanceMethod objectInit) (by decide +kernel)) (hts (.code objectInit ⟨#[0xb1]⟩ 1 none) (by decide +kernel)) rfl (by rw [hml]; exact hl.1) rfl dX6_init_1 (Nat.le_of_ble_eq_true rfl) (Nat.le_of_ble_eq_true rfl) ?_
  refine W.eq (g2 := F0 m 4 ls []) rfl ?_
  refine lv_aload_n hx hb dX6_init_4 rfl (lv_at hl 0 rfl) ?_
  refine lv_iconst (v := 4) hx hb dX6_init_5 (by decide) ?_
  refine va_newa (atype := .int) (ty := .int) (N' := 4) (a0 := (4, .inl (fun _ => 0))) hx hb (hts (.arrayClass .int) (by decide +kernel)) rfl hK.1 hP hD hS (fun z hz => Or.inr (Nat.le_trans hsz hz)) (fun _ => rfl) (by decide) (by decide) (by decide) (Nat.le_of_ble_eq_true rfl) (Nat.le_of_ble_eq_true rfl) dX6_init_6 (fun q1 cA H1 hK1 hP hD hS => ?_)
  have ec : cA = k 0 := Option.some.inj ((hK1.2 5 _ rfl).2.symm.trans (hK1.2 0 _ rfl).2)
  subst ec
  clear hK1
  have g1 : sz ≤ q1 := by
    rcases hD.2 1 _ rfl with ⟨j, hj, hq⟩ | h
    · obtain rfl : j = 0 := by omega
      have h0 : (0 : Nat) = 1 := hD.1 0 1 _ _ rfl rfl hq.symm
      omega
    · exact h
  refine va_putF (D := dC) (ci := 8) (v := .ref q1) (ty := .array .int) (C := RX6) (T := TX6) (N := 6) hx hb hts (by decide +kernel) tyX6 tyX6_ok nmX6 hown hK.1 hP hD hS 0 rfl rfl 0 (by decide) (hts (.fieldLink RX6 9 "FoodTruckRota$Truck" "portions" "[I") (by decide +kernel)) (fun _ h9 => h9) rfl hin rfl (by decide +kernel) rfl rfl (Nat.le_of_ble_eq_true rfl) dX6_init_8 (fun H locs hP hD hS => ?_)
  refine lv_aload_n hx hb dX6_init_11 rfl (lv_at hl 0 rfl) ?_
  refine lv_bipush (v := 9) hx hb dX6_init_12 (by decide) ?_
  refine va_newa (atype := .int) (ty := .int) (N' := 9) (a0 := (9, .inl (fun _ => 0))) hx hb (hts (.arrayClass .int) (by decide +kernel)) rfl hK.1 hP hD hS (fun z hz => Or.inr (Nat.le_trans hsz hz)) (fun _ => rfl) (by decide) (by decide) (by decide) (Nat.le_of_ble_eq_true rfl) (Nat.le_of_ble_eq_true rfl) dX6_init_14 (fun q2 cA H1 hK1 hP hD hS => ?_)
  have ec : cA = k 0 := Option.some.inj ((hK1.2 5 _ rfl).2.symm.trans (hK1.2 0 _ rfl).2)
  subst ec
  clear hK1
  have g2 : sz ≤ q2 := by
    rcases hD.2 2 _ rfl with ⟨j, hj, hq⟩ | h
    · obtain rfl : j = 0 := by omega
      have h0 : (0 : Nat) = 2 := hD.1 0 2 _ _ rfl rfl hq.symm
      omega
    · exact h
  refine va_putF (D := dC) (ci := 8) (v := .ref q2) (ty := .array .int) (C := RX6) (T := TX6) (N := 6) hx hb hts (by decide +kernel) tyX6 tyX6_ok nmX6 hown hK.1 hP hD hS 0 rfl rfl 1 (by decide) (hts (.fieldLink RX6 15 "FoodTruckRota$Truck" "wishes" "[I") (by decide +kernel)) (fun _ h9 => h9) rfl hin rfl (by decide +kernel) rfl rfl (Nat.le_of_ble_eq_true rfl) dX6_init_16 (fun H locs hP hD hS => ?_)
  have hP : va_P dC vwCl (ft_WT (va_up (va_up ad 1 q1) 2 q2) k (fun _ => 0) 0) H := ft_cast hP (ft_newT ad k q1 q2)
  have hD : va_D (ft_An 1 ad sz) (ft_WT (va_up (va_up ad 1 q1) 2 q2) k (fun _ => 0) 0) := ft_castD hD (ft_newT ad k q1 q2)
  exact W.vret hx hb hr (fun t ht hW => ⟨⟨(q1, q2), rfl, trivial, g1, g2, ft_heap ht hP, hD⟩, hS.F ht⟩) hS.2.2 dX6_init_19
