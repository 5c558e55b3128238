def ft_l1 {α γ : Type} (a : α) (f : α → γ) : γ := f a
theorem ft_l1_eq {α γ : Type} {a : α} {f : α → γ} {F : γ} (h : ft_l1 a f = F) : f a = F := h
def ft_lt {α β γ : Type} (a : α) (b : β) (f : α → β → γ) : γ := f a b
theorem ft_lt_eq {α β γ : Type} {a : α} {b : β} {f : α → β → γ} {F : γ} (h : ft_lt a b f = F) : f a b = F := h
abbrev ft_Sg : Type := (Nat → Nat → Int32) × (Nat → Nat) × (Nat → Int32) × ft_G
theorem ft_v15 {y bnd : Int32} {i : Nat} (hi : y = nI i) (hm : i ≤ tn bnd) (h : ¬ 15 ≤ y) : vp_in y 15 := by
  have h31 := ft_tn31 bnd
  subst hi
  have e15 : (15 : Int32) = nI 15 := rfl
  rw [e15, nI_leI (by decide) (by omega)] at h
  exact vp_in_nI (by omega) (by decide)
theorem ft_ok259_read {o : Nat → Int32} {g : ft_G} {n : Nat} (h : ft_ok259 o g n) : ft_ok259 (s_X3_read o g).2.1 (s_X3_read o g).2.2 n := by
  unfold ft_ok259 at h ⊢
  rw [ox_read (by decide) (by decide), gx_read.1]
  exact h
theorem ft_ok_hc {o : Nat → Int32} {g : ft_G} (h : ft_ok259 o g 60) : o 6 ≤ nI g.1.1 ∧ g.1.1 < 2 ^ 31 := by
  have h1 := h.cnt (by decide)
  refine ⟨?_, by omega⟩
  rw [h1.1]
  exact nI_le h1.2.2.1 (by omega)

def s_X7_runScript_L57 (q : Nat → Nat → Int32) (pm : Nat → Nat) (o : Nat → Int32) (g : ft_G)  (o1 : Nat → Int32) (g1 : ft_G) (K : Int32 → (Nat → Nat → Int32) → (Except String Int32 × ft_Sg)) : Nat → Int32 → (Nat → Nat → Int32) → (Except String Int32 × ft_Sg)
  | 0, y2_57, q_57 => K y2_57 q_57
  | n + 1, y2_57, q_57 => if (o1 4) ≤ y2_57 then (K y2_57 q_57) else (if 15 ≤ y2_57 then (K y2_57 q_57) else (if 0 ≤ ((s_X4_carryOut (g1.2.2.1 (tn y2_57)) (q_57 1) ((g1.2.2.2 (tn y2_57)) (tn 0)) ((g1.2.2.2 (tn y2_57)) (tn 1)) ((g1.2.2.2 (tn y2_57)) (tn 2))).1) then (s_X7_runScript_L57 q pm o g o1 g1 K n (y2_57 + 1) (va_up q_57 1 ((s_X4_carryOut (g1.2.2.1 (tn y2_57)) (q_57 1) ((g1.2.2.2 (tn y2_57)) (tn 0)) ((g1.2.2.2 (tn y2_57)) (tn 1)) ((g1.2.2.2 (tn y2_57)) (tn 2))).2))) else ((.error "java/lang/IllegalStateException", (va_up q_57 1 ((s_X4_carryOut (g1.2.2.1 (tn y2_57)) (q_57 1) ((g1.2.2.2 (tn y2_57)) (tn 0)) ((g1.2.2.2 (tn y2_57)) (tn 1)) ((g1.2.2.2 (tn y2_57)) (tn 2))).2), pm, va_up o1 2 y2_57, g1)))))
def s_X7_runScript (q : Nat → Nat → Int32) (pm : Nat → Nat) (o : Nat → Int32) (g : ft_G)  : Except String Int32 × ft_Sg := ft_l1 (s_X3_read o g) (fun R => ft_lt ((ft_oz259 R.2.1 R.2.2).1) ((ft_oz259 R.2.1 R.2.2).2) (fun o1 g1 => if R.1 = 0 then ((.error "java/lang/IllegalArgumentException", (q, pm, va_up o1 1 (o1 5), g1))) else (s_X7_runScript_L57 q pm o g o1 g1 (fun y2_57 q_57 => (.ok (((s_X7_takeDraft q_57 pm o1).2.2) 4), ((s_X7_takeDraft q_57 pm o1).1, (s_X7_takeDraft q_57 pm o1).2.1, (s_X7_takeDraft q_57 pm o1).2.2, g1))) (tn (o1 4) + 1) 0 (va_up q 1 (s_X4_copyFrom (q 1) (q 0))))))
set_option maxHeartbeats 4000000 in
set_option maxRecDepth 100000 in
theorem c_X7_runScript (l : Launch) (hl0 : l.stackTraces = false) (dC : va_G) (Z : Nat → Nat → Nat) (ad : Nat → Nat) (k : Nat → ClassId) (q : Nat → Nat → Int32) (pm : Nat → Nat) (o : Nat → Int32) (g : ft_G)  (hpm : ∀ i, i < 8 → pm i < 8) (hok : ft_ok259 o g 60) (hg9 : ∀ n, n < 15 → g.2.2.1 n < 9) : vx_Met l yX7_runScript wsX7_runScript ({ frames := 9, cells := 1, slots := 6, locals := 202 }) (ft_Pf dC k Z (ft_A 292 ad) [.ref (ad 253)] (ft_WR ad k Z q pm o g)) (va_Qi (fun (z : Int32) (u : ft_Sg) => (.ok z, u) = s_X7_runScript q pm o g) (fun (u : ft_Sg) (t : State) => va_P dC vwCl (ft_WR ad k Z u.1 u.2.1 u.2.2.1 u.2.2.2) t.heap) (ft_A 292 ad)) (vx_X (fun (_ : ft_Sg) => True) (fun (E : String) (u : ft_Sg) (t : State) => (.error E, u) = s_X7_runScript q pm o g ∧ va_P dC vwCl (ft_WR ad k Z u.1 u.2.1 u.2.2.1 u.2.2.2) t.heap) (ft_A 292 ad)) 1 6 (ft_A 292 ad) := by
  refine vx_ofW (cc := cX7_runScript) (maxL := 4) (ret := (some .int)) (by decide) rfl ?_
  intro p e s m args below meth c s₁ B hml hnt hv
  obtain ⟨hargs, hP, hE, hD0⟩ := hv
  have hK := hE.1
  subst hargs
  have hx := B.exec
  have hb := B.bytes
  have hr := B.returns
  have hts := atoms_spec (ws := wsX7_runScript) B.pre
  have hown : s.vm.findClass RX7 = some m.cls := findClass_of_methodNamed B.named
  have hu_RX3 : ∀ w ∈ u_ws RX3 TX3 4, w ∈ wsX7_runScript := by decide +kernel
  have hu_RX5 : ∀ w ∈ u_ws RX5 TX5 2, w ∈ wsX7_runScript := by decide +kernel
  have hu_RX7 : ∀ w ∈ u_ws RX7 TX7 9, w ∈ wsX7_runScript := by decide +kernel
  have hw0_ := hts (.classLink RX7 156 "java/lang/IllegalArgumentException") (by decide +kernel)
  have hw1_ := hts (.classLink RX7 244 "java/lang/IllegalStateException") (by decide +kernel)
  have hw2_ := hts (.fieldLink RX7 12 "FoodTruckRota" "square" "LFoodTruckRota$Square;") (by decide +kernel)
  have hw3_ := hts (.fieldLink RX7 16 "FoodTruckRota" "draft" "LFoodTruckRota$Square;") (by decide +kernel)
  have hw4_ := hts (.fieldLink RX7 32 "FoodTruckRota" "script" "LFoodTruckRota$Script;") (by decide +kernel)
  have hw5_ := hts (.fieldLink RX7 43 "FoodTruckRota" "latestErrorPosition" "I") (by decide +kernel)
  have hw6_ := hts (.fieldLink RX7 47 "FoodTruckRota" "latestFailedCommand" "I") (by decide +kernel)
  have hw7_ := hts (.initialized "java/lang/IllegalArgumentException") (by decide +kernel)
  have hw8_ := hts (.initialized "java/lang/IllegalStateException") (by decide +kernel)
  have hlocks := B.notSynchronized
  have hD := ft_D_self hD0
  have hS : va_S (ft_A 292 ad) s.heap s.heap [] := va_S.rf
  have hl := lv_entry ([.ref (ad 253)]) (n := 4) (Nat.le_of_ble_eq_true rfl)
  rw [lg_entry_eq]
  generalize (lg_sl ([.ref (ad 253)]) ++ List.replicate (4 - (lg_sl ([.ref (ad 253)])).length) Slot.unset).toArray = ls at hl ⊢
  have hl : lv_has ls 4 [(0, .ref (ad 253))] := hl
  have hsp := (s_X7_runScript.eq_1 q pm o g ).symm
  refine lv_aload_n hx hb dX7_runScript_0 rfl (lv_at hl 0 rfl) ?_
  refine va_get (D := dC) (ci := 9) (v := .ref (ad 256)) (C := RX7) (T := TX7) (N := 9) hx hb hts hu_RX7 hown hK.1 hP (253 + 0) (ft_get' (by decide) rfl) rfl 4 (by decide) hw4_ (fun _ h9 => h9) rfl dX7_runScript_1 ?_
  obtain ⟨R, hR⟩ : ∃ R, R = s_X3_read o g := ⟨_, rfl⟩
  have hokR : ft_ok259 R.2.1 R.2.2 60 := by rw [hR]; exact ft_ok259_read hok
  have hg9R : ∀ n, n < 15 → R.2.2.2.2.1 n < 9 := by rw [hR]; exact g9_read hg9
  rw [← hR] at hsp
  replace hsp := ft_l1_eq hsp
  refine va_calli (va_runV (As := []) (rest := []) ⟨hx, hb, hml, hown, hts⟩ (c_X3_read l dC Z ad k q pm o g (ft_ok_hc hok).1 (ft_ok_hc hok).2) (cwV 0 hts gX7_runScript_X3_read rfl rfl rfl (by decide +kernel) ⟨Nat.le_of_ble_eq_true rfl, Nat.le_of_ble_eq_true rfl⟩) (ft_preVh hE hS (fun _ h => h) hP hD (ci := 5) (q0 := (253 + 3)) rfl (ft_get' (by decide) rfl)) rfl rfl hl.1 rfl (lv_room (Nat.le_of_ble_eq_true rfl)) dX7_runScript_4 ⟨Nat.le_of_ble_eq_true rfl, Nat.le_of_ble_eq_true rfl⟩) hS (fun q _ h => h) (fun q h => h) (fun z u t H1 locs ht hvm hw hB hz1 hk1 hS => ?_)
  rw [← hR] at hw
  obtain ⟨rfl, rfl⟩ : z = R.1 ∧ u = R.2 := ⟨congrArg Prod.fst hw, congrArg Prod.snd hw⟩
  clear hw hR
  rw [ht] at hB
  have hP : va_P dC vwCl (ft_WR ad k Z q pm R.2.1 R.2.2) H1 := hB
  have hD : va_D (ft_A 292 ad) (ft_WR ad k Z q pm R.2.1 R.2.2) := ft_D_va hD _
  generalize H1 = H at hP hS ⊢
  refine lv_istore_n (lv' := [(1, .int (R.1)), (0, .ref (ad 253))]) hx hb dX7_runScript_7 rfl hl (by decide) rfl (fun ls hl => ?_)
  refine lv_aload_n hx hb dX7_runScript_8 rfl (lv_at hl 1 rfl) ?_
  refine va_get (D := dC) (ci := 9) (v := .ref (ad 256)) (C := RX7) (T := TX7) (N := 9) hx hb hts hu_RX7 hown hK.1 hP (253 + 0) (ft_get' (by decide) rfl) rfl 4 (by decide) hw4_ (fun _ h9 => h9) rfl dX7_runScript_9 ?_
  refine va_getN (D := dC) (ci := 5) (v := .ref (ad 258)) (C := RX3) (T := TX3) (N := 4) hx hb hts hu_RX3 hown hK.1 hP (253 + 3) (ft_get' (by decide) rfl) rfl 0 (by decide) (ft_nl hK.2 24 rfl) (fun _ h9 => h9) rfl dX7_runScript_12 ?_
  refine lv_iconst (v := 0) hx hb dX7_runScript_15 (by decide) ?_
  have hcn := ft_ok259.cnt hokR (by decide)
  refine va_callv (va_runV (As := [.int 0]) (rest := []) ⟨hx, hb, hml, hown, hts⟩ (c_J4_setLength_d00df_0 l dC (fun j => ad (258 + j)) k (R.2.1 8, R.2.1 6, R.2.2.1.1, R.2.2.1.2) 0 (tn (R.2.1 6)) rfl hcn.1 (by omega) (Nat.le_trans hcn.2.2.2 (by decide))) (cwV 1 hts gX7_runScript_J4_setLength_d00df rfl rfl rfl (by decide +kernel) ⟨Nat.le_of_ble_eq_true rfl, Nat.le_of_ble_eq_true rfl⟩) (ft_preVd hK (ft_R_B1 hP) (ft_D_259 hD) (ci := 1) rfl (ft_get' (by decide) rfl)) rfl rfl hl.1 rfl (lv_room (Nat.le_of_ble_eq_true rfl)) dX7_runScript_16 ⟨Nat.le_of_ble_eq_true rfl, Nat.le_of_ble_eq_true rfl⟩) hS (fun x _ h => ft_sbA_259 x h) (fun x h => ft_sbA_259 x h) (fun v_16 t H1 locs1 ht hvm hw hB hz1 hk1 hS => ?_)
  rw [ht] at hB
  rw [hw] at hB
  have hW := ft_same0_259 hP hD hpm hk1 hB
  have hP : va_P dC vwCl (ft_WR ad k Z q pm ((ft_oz259 R.2.1 R.2.2).1) ((ft_oz259 R.2.1 R.2.2).2)) H1 := hW.1
  have hD : va_D (ft_A 292 ad) (ft_WR ad k Z q pm ((ft_oz259 R.2.1 R.2.2).1) ((ft_oz259 R.2.1 R.2.2).2)) := hW.2
  clear hW
  generalize H1 = H at hP hS ⊢
  have hg91 : ∀ n, n < 15 → ((ft_oz259 R.2.1 R.2.2).2).2.2.1 n < 9 := hg9R
  obtain ⟨o1, ho1⟩ : ∃ x, x = (ft_oz259 R.2.1 R.2.2).1 := ⟨_, rfl⟩
  obtain ⟨g1, hg1⟩ : ∃ x, x = (ft_oz259 R.2.1 R.2.2).2 := ⟨_, rfl⟩
  rw [← ho1, ← hg1] at hP hD hsp
  rw [← hg1] at hg91
  clear ho1 hg1 hcn
  replace hsp := ft_lt_eq hsp
  refine lv_iload_n hx hb dX7_runScript_19 rfl (lv_at hl 0 rfl) ?_
  refine lv_if_ne (tgt := 44) hx hb dX7_runScript_20 (by decide) (fun c_20 => ?_) (fun c_20 => ?_)
  · replace hsp := (if_neg c_20).symm.trans hsp
    refine lv_aload_n hx hb dX7_runScript_44 rfl (lv_at hl 1 rfl) ?_
    refine va_get (D := dC) (ci := 9) (v := .ref (ft_sq ad 1 0)) (C := RX7) (T := TX7) (N := 9) hx hb hts hu_RX7 hown hK.1 hP (253 + 0) (ft_get' (by decide) rfl) rfl 1 (by decide) hw3_ (fun _ h9 => h9) rfl dX7_runScript_45 ?_
    refine lv_aload_n hx hb dX7_runScript_48 rfl (lv_at hl 1 rfl) ?_
    refine va_get (D := dC) (ci := 9) (v := .ref (ft_sq ad 0 0)) (C := RX7) (T := TX7) (N := 9) hx hb hts hu_RX7 hown hK.1 hP (253 + 0) (ft_get' (by decide) rfl) rfl 0 (by decide) hw2_ (fun _ h9 => h9) rfl dX7_runScript_49 ?_
    refine va_callv (va_runV (As := [.ref (ft_sq ad 0 0)]) (rest := []) ⟨hx, hb, hml, hown, hts⟩ (c_X4_copyFrom l dC (ft_sq ad 1) k (q 1) (ft_sq ad 0) (q 0)) (cwV 1 hts gX7_runScript_X4_copyFrom rfl rfl rfl (by decide +kernel) ⟨Nat.le_of_ble_eq_true rfl, Nat.le_of_ble_eq_true rfl⟩) (ft_preVd hK (ft_R_P2 hP (a := 1) (b := 0) (by decide) (by decide)) (ft_R_D2 hD (a := 1) (b := 0) (by decide) (by decide) (by omega)) (ci := 6) rfl (ft_get' (by decide) rfl)) rfl rfl hl.1 rfl (lv_room (Nat.le_of_ble_eq_true rfl)) dX7_runScript_52 ⟨Nat.le_of_ble_eq_true rfl, Nat.le_of_ble_eq_true rfl⟩) hS (fun z9 _ h => ft_R_A2 (a := 1) (b := 0) (by decide) (by decide) z9 h) (fun z9 h => ft_R_A2 (a := 1) (b := 0) (by decide) (by decide) z9 h) (fun u t H1 locs ht hvm hw hB hz1 hk1 hS => ?_)
    subst hw
    rw [ht] at hB
    have hP : va_P dC vwCl (ft_WR ad k Z (va_up q 1 (s_X4_copyFrom (q 1) (q 0))) pm o1 g1) H1 := ft_R_join2 hP hD (a := 1) (b := 0) (by decide) (by decide) (by omega) hk1 hB
    have hD : va_D (ft_A 292 ad) (ft_WR ad k Z (va_up q 1 (s_X4_copyFrom (q 1) (q 0))) pm o1 g1) := ft_D_va hD _
    generalize H1 = H at hP hS ⊢
    refine lv_iconst (v := 0) hx hb dX7_runScript_55 (by decide) ?_
    refine lv_istore_n (lv' := [(2, .int (0)), (1, .int (R.1)), (0, .ref (ad 253))]) hx hb dX7_runScript_56 rfl hl (by decide) rfl (fun ls hl => ?_)
    have loop_57 : ∀ (K : Int32 → (Nat → Nat → Int32) → (Except String Int32 × ft_Sg)) (hKx : ∀ (y2_57 : Int32) (i_57 : Nat) (hi_57 : y2_57 = nI i_57) (hm_57 : i_57 ≤ tn (o1 4)) (q_57 : Nat → Nat → Int32) (H : Heap) (locs : List Loc) (hP : va_P dC vwCl (ft_WR ad k Z q_57 pm o1 g1) H) (hD : va_D (ft_A 292 ad) (ft_WR ad k Z q_57 pm o1 g1)) (hS : va_S (ft_A 292 ad) s.heap H locs) (ls : Array Slot) (hl : lv_has ls 4 [(0, .ref (ad 253)), (1, .int (R.1)), (2, .int (y2_57))]) (hsp : K y2_57 q_57 = s_X7_runScript q pm o g), W p l e (headSpec wsX7_runScript ({ frames := 9, cells := 1, slots := 6, locals := 202 })).room s m ([.ref (ad 253)] : List Value).toArray below meth c H locs 0 0 (vx_MQ below (va_Qi (fun (z : Int32) (u : ft_Sg) => (.ok z, u) = s_X7_runScript q pm o g) (fun (u : ft_Sg) (t : State) => va_P dC vwCl (ft_WR ad k Z u.1 u.2.1 u.2.2.1 u.2.2.2) t.heap) (ft_A 292 ad)) (vx_X (fun (_ : ft_Sg) => True) (fun (E : String) (u : ft_Sg) (t : State) => (.error E, u) = s_X7_runScript q pm o g ∧ va_P dC vwCl (ft_WR ad k Z u.1 u.2.1 u.2.2.1 u.2.2.2) t.heap) (ft_A 292 ad)) ([.ref (ad 253)] : List Value).toArray s 1 6 (ft_A 292 ad)) (F0 m 138 ls [])) (n_57 : Nat), ∀ (y2_57 : Int32) (i_57 : Nat) (hi_57 : y2_57 = nI i_57) (hm_57 : i_57 ≤ tn (o1 4)) (hn_57 : tn (o1 4) < n_57 + i_57) (q_57 : Nat → Nat → Int32) (H : Heap) (locs : List Loc) (hP : va_P dC vwCl (ft_WR ad k Z q_57 pm o1 g1) H) (hD : va_D (ft_A 292 ad) (ft_WR ad k Z q_57 pm o1 g1)) (hS : va_S (ft_A 292 ad) s.heap H locs) (ls : Array Slot) (hl : lv_has ls 4 [(0, .ref (ad 253)), (1, .int (R.1)), (2, .int (y2_57))]) (hsp : s_X7_runScript_L57 q pm o g o1 g1 K n_57 y2_57 q_57 = s_X7_runScript q pm o g), W p l e (headSpec wsX7_runScript ({ frames := 9, cells := 1, slots := 6, locals := 202 })).room s m ([.ref (ad 253)] : List Value).toArray below meth c H locs 0 0 (vx_MQ below (va_Qi (fun (z : Int32) (u : ft_Sg) => (.ok z, u) = s_X7_runScript q pm o g) (fun (u : ft_Sg) (t : State) => va_P dC vwCl (ft_WR ad k Z u.1 u.2.1 u.2.2.1 u.2.2.2) t.heap) (ft_A 292 ad)) (vx_X (fun (_ : ft_Sg) => True) (fun (E : String) (u : ft_Sg) (t : State) => (.error E, u) = s_X7_runScript q pm o g ∧ va_P dC vwCl (ft_WR ad k Z u.1 u.2.1 u.2.2.1 u.2.2.2) t.heap) (ft_A 292 ad)) ([.ref (ad 253)] : List Value).toArray s 1 6 (ft_A 292 ad)) (F0 m 57 ls []) := by
      intro K hKx n_57
      induction n_57 with
      | zero => intro y2_57 i_57 hi_57 hm_57 hn_57; exact absurd hn_57 (by omega)
      | succ n ih_57 =>
        intro y2_57 i_57 hi_57 hm_57 hn_57 q_57 H locs hP hD hS ls hl hsp
        rw [s_X7_runScript_L57] at hsp
        refine lv_iload_n hx hb dX7_runScript_57 rfl (lv_at hl 2 rfl) ?_
        refine lv_aload_n hx hb dX7_runScript_58 rfl (lv_at hl 0 rfl) ?_
        refine va_get (D := dC) (ci := 9) (v := .ref (ad 256)) (C := RX7) (T := TX7) (N := 9) hx hb hts hu_RX7 hown hK.1 hP (253 + 0) (ft_get' (by decide) rfl) rfl 4 (by decide) hw4_ (fun _ h9 => h9) rfl dX7_runScript_59 ?_
        refine va_getN (D := dC) (ci := 5) (v := .int (o1 4)) (C := RX3) (T := TX3) (N := 4) hx hb hts hu_RX3 hown hK.1 hP (253 + 3) (ft_get' (by decide) rfl) rfl 2 (by decide) (ft_nl hK.2 26 rfl) (fun _ h9 => h9) rfl dX7_runScript_62 ?_
        refine lv_icmp_ge (tgt := 138) hx hb dX7_runScript_65 (by decide) (fun c_65 => ?_) (fun c_65 => ?_)
        · replace hsp := (if_pos c_65).symm.trans hsp
          exact hKx y2_57 i_57 hi_57 hm_57 q_57 _ _ hP hD hS ls (lv_sub hl [0, 1, 2] rfl) hsp
        · replace hsp := (if_neg c_65).symm.trans hsp
          have hlt_57 := ft_step hi_57 hm_57 c_65
          refine lv_iload_n hx hb dX7_runScript_68 rfl (lv_at hl 2 rfl) ?_
          refine lv_bipush (v := 15) hx hb dX7_runScript_69 (by decide) ?_
          refine lv_icmp_ge (tgt := 138) hx hb dX7_runScript_71 (by decide) (fun c_71 => ?_) (fun c_71 => ?_)
          · replace hsp := (if_pos c_71).symm.trans hsp
            exact hKx y2_57 i_57 hi_57 hm_57 q_57 _ _ hP hD hS ls (lv_sub hl [0, 1, 2] rfl) hsp
          · replace hsp := (if_neg c_71).symm.trans hsp
            refine lv_aload_n hx hb dX7_runScript_74 rfl (lv_at hl 0 rfl) ?_
            refine va_get (D := dC) (ci := 9) (v := .ref (ad 256)) (C := RX7) (T := TX7) (N := 9) hx hb hts hu_RX7 hown hK.1 hP (253 + 0) (ft_get' (by decide) rfl) rfl 4 (by decide) hw4_ (fun _ h9 => h9) rfl dX7_runScript_75 ?_
            refine va_getN (D := dC) (ci := 5) (v := .ref (ad 257)) (C := RX3) (T := TX3) (N := 4) hx hb hts hu_RX3 hown hK.1 hP (253 + 3) (ft_get' (by decide) rfl) rfl 1 (by decide) (ft_nl hK.2 25 rfl) (fun _ h9 => h9) rfl dX7_runScript_78 ?_
            refine lv_iload_n hx hb dX7_runScript_81 rfl (lv_at hl 2 rfl) ?_
            have h_82 : vp_in y2_57 15 := by exact ft_v15 hi_57 hm_57 c_71
            refine va_aldq (C := RX5) hx hb hK.1 hP (253 + 4) 3 (ft_get' (by decide) rfl) rfl h_82 dX7_runScript_82 ?_
            refine W.eq (g2 := F0 m 83 ls [.ref (ad (262 + 2 * (tn y2_57)))]) rfl ?_
            refine lv_astore_n (lv' := [(3, .ref (ad (262 + 2 * (tn y2_57)))), (0, .ref (ad 253)), (1, .int (R.1)), (2, .int (y2_57))]) hx hb dX7_runScript_83 rfl hl (by decide) rfl (fun ls hl => ?_)
            refine lv_aload_n hx hb dX7_runScript_84 rfl (lv_at hl 1 rfl) ?_
            refine va_get (D := dC) (ci := 9) (v := .ref (ft_sq ad 1 0)) (C := RX7) (T := TX7) (N := 9) hx hb hts hu_RX7 hown hK.1 hP (253 + 0) (ft_get' (by decide) rfl) rfl 1 (by decide) hw3_ (fun _ h9 => h9) rfl dX7_runScript_85 ?_
            refine lv_aload_n hx hb dX7_runScript_88 rfl (lv_at hl 0 rfl) ?_
            refine va_getN (D := dC) (ci := 7) (v := .ref (Z 0 (g1.2.2.1 (tn y2_57)))) (C := RX5) (T := TX5) (N := 2) hx hb hts hu_RX5 hown hK.1 hP (262 + 2 * (tn y2_57)) (ft_R_st (ft_tn h_82)) rfl 0 (by decide) (ft_nl hK.2 21 rfl) (fun _ h9 => h9) rfl dX7_runScript_89 ?_
            refine lv_aload_n hx hb dX7_runScript_92 rfl (lv_at hl 0 rfl) ?_
            refine va_getN (D := dC) (ci := 7) (v := .ref (ad (263 + 2 * (tn y2_57)))) (C := RX5) (T := TX5) (N := 2) hx hb hts hu_RX5 hown hK.1 hP (262 + 2 * (tn y2_57)) (ft_R_st (ft_tn h_82)) rfl 1 (by decide) (ft_nl hK.2 23 rfl) (fun _ h9 => h9) rfl dX7_runScript_93 ?_
            refine lv_iconst (v := 0) hx hb dX7_runScript_96 (by decide) ?_
            have h_97 : vp_in 0 3 := by exact pk_in 0 3 (by decide)
            refine va_iald hx hb hK.1 hP (263 + 2 * (tn y2_57)) 0 (ft_R_sa (ft_tn h_82)) rfl h_97 dX7_runScript_97 ?_
            refine lv_aload_n hx hb dX7_runScript_98 rfl (lv_at hl 0 rfl) ?_
            refine va_getN (D := dC) (ci := 7) (v := .ref (ad (263 + 2 * (tn y2_57)))) (C := RX5) (T := TX5) (N := 2) hx hb hts hu_RX5 hown hK.1 hP (262 + 2 * (tn y2_57)) (ft_R_st (ft_tn h_82)) rfl 1 (by decide) (ft_nl hK.2 23 rfl) (fun _ h9 => h9) rfl dX7_runScript_99 ?_
            refine lv_iconst (v := 1) hx hb dX7_runScript_102 (by decide) ?_
            have h_103 : vp_in 1 3 := by exact pk_in 1 3 (by decide)
            refine va_iald hx hb hK.1 hP (263 + 2 * (tn y2_57)) 0 (ft_R_sa (ft_tn h_82)) rfl h_103 dX7_runScript_103 ?_
            refine lv_aload_n hx hb dX7_runScript_104 rfl (lv_at hl 0 rfl) ?_
            refine va_getN (D := dC) (ci := 7) (v := .ref (ad (263 + 2 * (tn y2_57)))) (C := RX5) (T := TX5) (N := 2) hx hb hts hu_RX5 hown hK.1 hP (262 + 2 * (tn y2_57)) (ft_R_st (ft_tn h_82)) rfl 1 (by decide) (ft_nl hK.2 23 rfl) (fun _ h9 => h9) rfl dX7_runScript_105 ?_
            refine lv_iconst (v := 2) hx hb dX7_runScript_108 (by decide) ?_
            have h_109 : vp_in 2 3 := by exact pk_in 2 3 (by decide)
            refine va_iald hx hb hK.1 hP (263 + 2 * (tn y2_57)) 0 (ft_R_sa (ft_tn h_82)) rfl h_109 dX7_runScript_109 ?_
            refine va_calli (va_runV (As := [.ref (Z 0 (g1.2.2.1 (tn y2_57))), .int ((g1.2.2.2 (tn y2_57)) (tn 0)), .int ((g1.2.2.2 (tn y2_57)) (tn 1)), .int ((g1.2.2.2 (tn y2_57)) (tn 2))]) (rest := []) ⟨hx, hb, hml, hown, hts⟩ (c_X4_carryOut l dC Z (ft_sq ad 1) k (q_57 1) (g1.2.2.1 (tn y2_57)) (hg91 _ (ft_tn h_82)) ((g1.2.2.2 (tn y2_57)) (tn 0)) ((g1.2.2.2 (tn y2_57)) (tn 1)) ((g1.2.2.2 (tn y2_57)) (tn 2))) (cwV 4 hts gX7_runScript_X4_carryOut rfl rfl rfl (by decide +kernel) ⟨Nat.le_of_ble_eq_true rfl, Nat.le_of_ble_eq_true rfl⟩) (ft_preVf hE hS (ft_R_A (s := 1) (by decide)) (ft_R_S hP (s := 1) (by decide)) (ft_R_D hD (s := 1) (by decide)) (ci := 6) rfl (ft_get' (by decide) rfl)) rfl rfl hl.1 rfl (lv_room (Nat.le_of_ble_eq_true rfl)) dX7_runScript_110 ⟨Nat.le_of_ble_eq_true rfl, Nat.le_of_ble_eq_true rfl⟩) hS (fun z9 _ h => ft_R_A (s := 1) (by decide) z9 h) (fun z9 h => ft_R_A (s := 1) (by decide) z9 h) (fun z u t H1 locs ht hvm hw hB hz1 hk1 hS => ?_)
            obtain ⟨rfl, rfl⟩ : z = (s_X4_carryOut (g1.2.2.1 (tn y2_57)) (q_57 1) ((g1.2.2.2 (tn y2_57)) (tn 0)) ((g1.2.2.2 (tn y2_57)) (tn 1)) ((g1.2.2.2 (tn y2_57)) (tn 2))).1 ∧ u = (s_X4_carryOut (g1.2.2.1 (tn y2_57)) (q_57 1) ((g1.2.2.2 (tn y2_57)) (tn 0)) ((g1.2.2.2 (tn y2_57)) (tn 1)) ((g1.2.2.2 (tn y2_57)) (tn 2))).2 := ⟨congrArg Prod.fst hw, congrArg Prod.snd hw⟩
            rw [ht] at hB
            have hP : va_P dC vwCl (ft_WR ad k Z (va_up q_57 1 ((s_X4_carryOut (g1.2.2.1 (tn y2_57)) (q_57 1) ((g1.2.2.2 (tn y2_57)) (tn 0)) ((g1.2.2.2 (tn y2_57)) (tn 1)) ((g1.2.2.2 (tn y2_57)) (tn 2))).2)) pm o1 g1) H1 := ft_R_join hP hD (s := 1) (by decide) hk1 hB
            have hD : va_D (ft_A 292 ad) (ft_WR ad k Z (va_up q_57 1 ((s_X4_carryOut (g1.2.2.1 (tn y2_57)) (q_57 1) ((g1.2.2.2 (tn y2_57)) (tn 0)) ((g1.2.2.2 (tn y2_57)) (tn 1)) ((g1.2.2.2 (tn y2_57)) (tn 2))).2)) pm o1 g1) := ft_D_va hD _
            generalize H1 = H at hP hS ⊢
            refine lv_if_ge (tgt := 132) hx hb dX7_runScript_113 (by decide) (fun c_113 => ?_) (fun c_113 => ?_)
            · replace hsp := (if_pos c_113).symm.trans hsp
              refine lv_iinc (v := y2_57 + 1) (lv' := [(2, .int (y2_57 + 1)), (3, .ref (ad (262 + 2 * (tn y2_57)))), (0, .ref (ad 253)), (1, .int (R.1))]) hx hb dX7_runScript_132 hl (k := 3) rfl rfl (by decide) rfl (fun ls hl => ?_)
              refine lv_goto (tgt := 57) hx hb dX7_runScript_135 (by decide) ?_
              exact ih_57 (y2_57 + 1) (i_57 + 1) (by rw [hi_57, nI_1]) hlt_57 (by omega) (va_up q_57 1 ((s_X4_carryOut (g1.2.2.1 (tn y2_57)) (q_57 1) ((g1.2.2.2 (tn y2_57)) (tn 0)) ((g1.2.2.2 (tn y2_57)) (tn 1)) ((g1.2.2.2 (tn y2_57)) (tn 2))).2)) _ _ hP hD hS ls (lv_sub hl [2, 3, 0] rfl) hsp
            · replace hsp := (if_neg c_113).symm.trans hsp
              refine lv_aload_n hx hb dX7_runScript_116 rfl (lv_at hl 1 rfl) ?_
              refine lv_iload_n hx hb dX7_runScript_117 rfl (lv_at hl 3 rfl) ?_
              refine va_put (D := dC) (ci := 9) (v := .int (y2_57)) (ty := .int) (C := RX7) (T := TX7) (N := 9) hx hb hts hu_RX7 tyX7 tyX7_ok nmX7 hown hK.1 hP hD hS (253 + 0) (ft_get' (by decide) rfl) rfl 8 (by decide) hw6_ (fun _ h9 => h9) rfl (by decide +kernel) rfl rfl (Nat.le_of_ble_eq_true rfl) dX7_runScript_118 (fun H locs hP hD hS => ?_)
              have hP := ft_cast hP (ft_R_p2)
              have hD := ft_castD hD (ft_R_p2)
              have hP : va_P dC vwCl (ft_WR ad k Z (va_up q_57 1 ((s_X4_carryOut (g1.2.2.1 (tn y2_57)) (q_57 1) ((g1.2.2.2 (tn y2_57)) (tn 0)) ((g1.2.2.2 (tn y2_57)) (tn 1)) ((g1.2.2.2 (tn y2_57)) (tn 2))).2)) pm (va_up o1 2 y2_57) g1) H := hP
              have hD : va_D (ft_A 292 ad) (ft_WR ad k Z (va_up q_57 1 ((s_X4_carryOut (g1.2.2.1 (tn y2_57)) (q_57 1) ((g1.2.2.2 (tn y2_57)) (tn 0)) ((g1.2.2.2 (tn y2_57)) (tn 1)) ((g1.2.2.2 (tn y2_57)) (tn 2))).2)) pm (va_up o1 2 y2_57) g1) := hD
              obtain ⟨sa, hsa⟩ := hE.2.1.2.1 (RX7, 275, "a command of the script failed") (List.mem_of_getElem? (i := 6) rfl)
              exact vx_throwSW (text := "a command of the script failed") (names := ["java/lang/RuntimeException", "java/lang/Exception"]) hx hb hl0 hown (by decide +kernel) (by decide +kernel) hw1_ hw8_ hsa (vx_hat (fun w h => hts w (List.mem_cons_of_mem _ (List.mem_append_right _ h))) (by decide +kernel) (ft_xw hE "java/lang/IllegalStateException" (by decide +kernel))) (by decide +kernel) hE.2.2.us hE.2.2.ss hS (hl.1.trans hml.symm) dX7_runScript_121 dX7_runScript_124 dX7_runScript_125 dX7_runScript_128 dX7_runScript_131 (fun x hx9 => (hnt x hx9).elim) (Nat.le_of_ble_eq_true rfl) (Nat.le_of_ble_eq_true rfl) (Nat.le_of_ble_eq_true rfl) (Nat.le_of_ble_eq_true rfl) hlocks (fun t _ h1 h2 => ⟨(va_up q_57 1 ((s_X4_carryOut (g1.2.2.1 (tn y2_57)) (q_57 1) ((g1.2.2.2 (tn y2_57)) (tn 0)) ((g1.2.2.2 (tn y2_57)) (tn 1)) ((g1.2.2.2 (tn y2_57)) (tn 2))).2), pm, va_up o1 2 y2_57, g1), trivial, ⟨hsp, ft_heap2 hP h2⟩, ft_Fa hS h1 h2⟩) hS.2.2 (by decide) (by decide)
    refine loop_57 _ (fun y2_57 i_57 hi_57 hm_57 q_57 H locs hP hD hS ls hl hsp => ?_) (tn (o1 4) + 1) 0 0 rfl (by omega) (by omega) (va_up q 1 (s_X4_copyFrom (q 1) (q 0))) _ _ hP hD hS ls (lv_sub hl [2, 1, 0] rfl) hsp
    refine lv_aload_n hx hb dX7_runScript_138 rfl (lv_at hl 0 rfl) ?_
    refine va_callv (va_runV (As := []) (rest := []) ⟨hx, hb, hml, hown, hts⟩ (c_X7_takeDraft l dC Z ad k q_57 pm o1 g1   hpm) (cwV 0 hts gX7_runScript_X7_takeDraft rfl rfl rfl (by decide +kernel) ⟨Nat.le_of_ble_eq_true rfl, Nat.le_of_ble_eq_true rfl⟩) (ft_preVh hE hS (fun _ h => h) hP hD (ci := 9) (q0 := (253 + 0)) rfl (ft_get' (by decide) rfl)) rfl rfl hl.1 rfl (lv_room (Nat.le_of_ble_eq_true rfl)) dX7_runScript_139 ⟨Nat.le_of_ble_eq_true rfl, Nat.le_of_ble_eq_true rfl⟩) hS (fun q _ h => h) (fun q h => h) (fun u t H1 locs ht hvm hw hB hz1 hk1 hS => ?_)
    subst hw
    rw [ht] at hB
    have hP : va_P dC vwCl (ft_WR ad k Z ((s_X7_takeDraft q_57 pm o1).1) ((s_X7_takeDraft q_57 pm o1).2.1) ((s_X7_takeDraft q_57 pm o1).2.2) g1) H1 := hB
    have hD : va_D (ft_A 292 ad) (ft_WR ad k Z ((s_X7_takeDraft q_57 pm o1).1) ((s_X7_takeDraft q_57 pm o1).2.1) ((s_X7_takeDraft q_57 pm o1).2.2) g1) := ft_D_va hD _
    generalize H1 = H at hP hS ⊢
    refine lv_aload_n hx hb dX7_runScript_142 rfl (lv_at hl 0 rfl) ?_
    refine va_get (D := dC) (ci := 9) (v := .ref (ad 256)) (C := RX7) (T := TX7) (N := 9) hx hb hts hu_RX7 hown hK.1 hP (253 + 0) (ft_get' (by decide) rfl) rfl 4 (by decide) hw4_ (fun _ h9 => h9) rfl dX7_runScript_143 ?_
    refine va_getN (D := dC) (ci := 5) (v := .int (((s_X7_takeDraft q_57 pm o1).2.2) 4)) (C := RX3) (T := TX3) (N := 4) hx hb hts hu_RX3 hown hK.1 hP (253 + 3) (ft_get' (by decide) rfl) rfl 2 (by decide) (ft_nl hK.2 26 rfl) (fun _ h9 => h9) rfl dX7_runScript_146 ?_
    refine vx_ret ?_
    refine W.widen (k := 1) (n := 6) (by decide) (by decide) ?_
    exact W.iret (v := ((s_X7_takeDraft q_57 pm o1).2.2) 4) hx hb hr (fun t ht hW => ⟨⟨((s_X7_takeDraft q_57 pm o1).2.2) 4, ((s_X7_takeDraft q_57 pm o1).1, (s_X7_takeDraft q_57 pm o1).2.1, (s_X7_takeDraft q_57 pm o1).2.2, g1), rfl, hsp, ft_heap ht hP⟩, hS.F ht⟩) hS.2.2 dX7_runScript_149
  · replace hsp := (if_pos c_20).symm.trans hsp
    refine lv_aload_n hx hb dX7_runScript_23 rfl (lv_at hl 1 rfl) ?_
    refine lv_aload_n hx hb dX7_runScript_24 rfl (lv_at hl 1 rfl) ?_
    refine va_get (D := dC) (ci := 9) (v := .ref (ad 256)) (C := RX7) (T := TX7) (N := 9) hx hb hts hu_RX7 hown hK.1 hP (253 + 0) (ft_get' (by decide) rfl) rfl 4 (by decide) hw4_ (fun _ h9 => h9) rfl dX7_runScript_25 ?_
    refine va_getN (D := dC) (ci := 5) (v := .int (o1 5)) (C := RX3) (T := TX3) (N := 4) hx hb hts hu_RX3 hown hK.1 hP (253 + 3) (ft_get' (by decide) rfl) rfl 3 (by decide) (ft_nl hK.2 27 rfl) (fun _ h9 => h9) rfl dX7_runScript_28 ?_
    refine va_put (D := dC) (ci := 9) (v := .int (o1 5)) (ty := .int) (C := RX7) (T := TX7) (N := 9) hx hb hts hu_RX7 tyX7 tyX7_ok nmX7 hown hK.1 hP hD hS (253 + 0) (ft_get' (by decide) rfl) rfl 7 (by decide) hw5_ (fun _ h9 => h9) rfl (by decide +kernel) rfl rfl (Nat.le_of_ble_eq_true rfl) dX7_runScript_31 (fun H locs hP hD hS => ?_)
    have hP := ft_cast hP (ft_R_p1)
    have hD := ft_castD hD (ft_R_p1)
    have hP : va_P dC vwCl (ft_WR ad k Z q pm (va_up o1 1 (o1 5)) g1) H := hP
    have hD : va_D (ft_A 292 ad) (ft_WR ad k Z q pm (va_up o1 1 (o1 5)) g1) := hD
    obtain ⟨sa, hsa⟩ := hE.2.1.2.1 (RX7, 255, "the script does not have the required form") (List.mem_of_getElem? (i := 5) rfl)
    exact vx_throwS (text := "the script does not have the required form") (names := ["java/lang/RuntimeException", "java/lang/Exception"]) hx hb hl0 hown (by decide +kernel) (by decide +kernel) hw0_ hw7_ hsa (vx_hat (fun w h => hts w (List.mem_cons_of_mem _ (List.mem_append_left _ (List.mem_append_left _ (List.mem_append_right _ h))))) (by decide +kernel) (ft_xw hE "java/lang/IllegalArgumentException" (by decide +kernel))) (by decide +kernel) hE.2.2.us hE.2.2.ss hS (hl.1.trans hml.symm) dX7_runScript_34 dX7_runScript_37 dX7_runScript_38 dX7_runScript_40 dX7_runScript_43 (fun x hx9 => (hnt x hx9).elim) (Nat.le_of_ble_eq_true rfl) (Nat.le_of_ble_eq_true rfl) (Nat.le_of_ble_eq_true rfl) (Nat.le_of_ble_eq_true rfl) hlocks (fun t _ h1 h2 => ⟨(q, pm, va_up o1 1 (o1 5), g1), trivial, ⟨hsp, ft_heap2 hP h2⟩, ft_Fa hS h1 h2⟩) hS.2.2 (by decide) (by decide)
