/-! a new Step -/
def ft_Q5 (k : Nat → ClassId) (c q : Nat) : Nat → va_E := fun j => match j with
  | 0 => .inr (7, [.ref c, .ref q])
  | _ => .inl (k 0, 3, .inl (fun _ => 0))
theorem ft_newS (ad : Nat → Nat) (k : Nat → ClassId) (c q1 : Nat) : ([(ad 0, (.inr (7, [.ref c, .ref q1]) : va_E)), (q1, .inl (k 0, 3, .inl (fun _ => 0)))] : va_W) = ft_W 2 (va_up ad 1 q1) (ft_Q5 k c q1) := rfl
set_option maxHeartbeats 4000000 in
set_option maxRecDepth 100000 in
theorem c_X5_init (l : Launch) (dC : va_G) (Z : Nat → Nat → Nat) (ad : Nat → Nat) (k : Nat → ClassId) (sz : Nat) : Met l yX5_init wsX5_init ({ frames := 1, cells := 1, slots := 3, locals := 40 }) (ft_Ph dC k Z (ft_An 1 ad sz) [.ref (ad 0)] (ft_W 1 ad (fun _ => .inr (7, [.null, .null]))) sz) (va_Qv (fun _ : Nat => True) (fun b t => sz ≤ b ∧ va_P dC vwCl (ft_W 2 (va_up ad 1 b) (ft_Q5 k (Z 0 0) b)) t.heap ∧ va_D (ft_An 1 ad sz) (ft_W 2 (va_up ad 1 b) (ft_Q5 k (Z 0 0) b))) (ft_An 1 ad sz)) 1 3 (ft_An 1 ad sz) := by
  refine Met.ofW (cc := cX5_init) (maxL := 1) (ret := none) (by decide) rfl ?_
  intro p e s m args below meth c s₁ B hml hv
  obtain ⟨hargs, hP, hE, hD0, hsz⟩ := hv
  have hK := hE.1
  subst hargs
  have hx := B.exec
  have hb := B.bytes
  have hr := B.returns
  have hin : meth.name = "<init>" := (name_of_methodNamed B.named B.method).1
  have hts := atoms_spec (ws := wsX5_init) B.pre
  have hown : s.vm.findClass RX5 = some m.cls := findClass_of_methodNamed B.named
  have hlocks := B.notSynchronized
  have hD : va_D (ft_An 1 ad sz) [(ad 0, (.inr (7, [.null, .null]) : va_E))] := (ft_D_self hD0).weaken (fun _ _ _ h => Or.inl h)
  have hP : va_P dC vwCl [(ad 0, (.inr (7, [.null, .null]) : va_E))] s.heap := hP
  have hS : va_S (ft_An 1 ad sz) s.heap s.heap [] := va_S.rf
  have hl := lv_entry ([.ref (ad 0)]) (n := 1) (Nat.le_of_ble_eq_true rfl)
  rw [lg_entry_eq]
  generalize (lg_sl ([.ref (ad 0)]) ++ List.replicate (1 - (lg_sl ([.ref (ad 0)])).length) Slot.unset).toArray = ls at hl ⊢
  have hl : lv_has ls 1 [(0, .ref (ad 0))] := hl
  refine lv_aload_n hx hb dX5_init_0 rfl (lv_at hl 0 rfl) ?_
  refine W.objInit hx hb hown (hts (.methodLink RX5 3 objectInit) (by decide +kernel)) (hts (.instanceMethod objectInit) (by decide +kernel)) (hts (.code objectInit ⟨#[0xb1]⟩ 1 none) (by decide +kernel)) rfl (by rw [hml]; exact hl.1) rfl dX5_init_1 (Nat.le_of_ble_eq_true rfl) (Nat.le_of_ble_eq_true rfl) ?_
  refine W.eq (g2 := F0 m 4 ls []) rfl ?_
  refine lv_aload_n hx hb dX5_init_4 rfl (lv_at hl 0 rfl) ?_
  refine va_gets (C := RX1) (n := "TRUCK") hx hb (hE.2.2.en.1 0 (by decide)).1 hS hown (hts (.fieldLink RX5 9 "FoodTruckRota$Command" "TRUCK" "LFoodTruckRota$Command;") (by decide +kernel)) (fun _ h9 => h9) dX5_init_5 ?_
  refine va_put (D := dC) (ci := 7) (v := .ref (Z 0 0)) (ty := .object "FoodTruckRota$Command") (C := RX5) (T := TX5) (N := 2) hx hb hts (by decide +kernel) tyX5 tyX5_ok nmX5 hown hK.1 hP hD hS 0 rfl rfl 0 (by decide) (hts (.fieldLink RX5 15 "FoodTruckRota$Step" "command" "LFoodTruckRota$Command;") (by decide +kernel)) (fun _ h9 => h9) rfl (by decide +kernel) rfl rfl (Nat.le_of_ble_eq_true rfl) dX5_init_8 (fun H locs hP hD hS => ?_)
  refine lv_aload_n hx hb dX5_init_11 rfl (lv_at hl 0 rfl) ?_
  refine lv_iconst (v := 3) hx hb dX5_init_12 (by decide) ?_
  refine va_newa (atype := .int) (ty := .int) (N' := 3) (a0 := (3, .inl (fun _ => 0))) hx hb (hts (.arrayClass .int) (by decide +kernel)) rfl hK.1 hP hD hS (fun z hz => Or.inr (Nat.le_trans hsz hz)) (fun _ => rfl) (by decide) (by decide) (by decide) (Nat.le_of_ble_eq_true rfl) (Nat.le_of_ble_eq_true rfl) dX5_init_13 (fun q1 cA H1 hK1 hP hD hS => ?_)
  have ec : cA = k 0 := Option.some.inj ((hK1.2 5 _ rfl).2.symm.trans (hK1.2 0 _ rfl).2)
  subst ec
  clear hK1
  have g1 : sz ≤ q1 := by
    rcases hD.2 1 _ rfl with ⟨j, hj, hq⟩ | h
    · obtain rfl : j = 0 := by omega
      have h0 : (0 : Nat) = 1 := hD.1 0 1 _ _ rfl rfl hq.symm
      omega
    · exact h
  refine va_putF (D := dC) (ci := 7) (v := .ref q1) (ty := .array .int) (C := RX5) (T := TX5) (N := 2) hx hb hts (by decide +kernel) tyX5 tyX5_ok nmX5 hown hK.1 hP hD hS 0 rfl rfl 1 (by decide) (hts (.fieldLink RX5 20 "FoodTruckRota$Step" "arguments" "[I") (by decide +kernel)) (fun _ h9 => h9) rfl hin rfl (by decide +kernel) rfl rfl (Nat.le_of_ble_eq_true rfl) dX5_init_15 (fun H locs hP hD hS => ?_)
  have hP := ft_cast hP (ft_newS ad k (Z 0 0) q1)
  have hD := ft_castD hD (ft_newS ad k (Z 0 0) q1)
  exact W.vret hx hb hr (fun t ht hW => ⟨⟨q1, rfl, trivial, g1, ft_heap ht hP, hD⟩, hS.F ht⟩) hS.2.2 dX5_init_18
