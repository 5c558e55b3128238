theorem ft_one {D : va_G} {k : Nat → ClassId} {ws : va_W} {H : Heap} {a : Nat} {u : ft_TY} {x : Nat × va_E} (hP : va_P D vwCl ((ws ++ [x]).set 1 (a, .inl (k 4, u.1, .inl u.2))) H) (hw : (ws ++ [x]).length = 2 := by rfl) : va_P D vwCl (ft_WY (fun _ => a) k u) H := by
  intro j q hj
  obtain ⟨h1, rfl⟩ := ft_of hj
  exact hP 1 _ (by rw [List.getElem?_set_self (by omega)]; rfl)

/-! growth of a row of bytes. sz: what the heap held at the start, or less; all from there on may be written -/
def ft_An (n : Nat) (ad : Nat → Nat) (sz : Nat) : Nat → Prop := fun q => ft_A n ad q ∨ sz ≤ q
def ft_Pg (D : va_G) (k : Nat → ClassId) (av : List Value) (ws : va_W) (sz : Nat) : Array Value → State → Prop := va_Pc av (fun U => va_P D vwCl ws U.heap ∧ ft_K D k U ∧ va_D (fun _ => True) ws ∧ sz ≤ U.heap.size)
theorem ft_Pg.blind {D : va_G} {k : Nat → ClassId} {av : List Value} {ws : va_W} {sz : Nat} : FrameBlind (ft_Pg D k av ws sz) := fun _ U _ _ q => ⟨q.1, q.2.1, q.2.2.1.same (u := U) rfl, q.2.2.2⟩
theorem ft_preSg {D : va_G} {k : Nat → ClassId} {s : State} {H : Heap} {As : List Value} {ws : va_W} {A : Nat → Prop} {sz : Nat} (hK : ft_K D k s) (hP : va_P D vwCl ws H) (hD : va_D A ws) (hz : sz ≤ H.size) : PreS s H (ft_Pg D k As ws sz) As := ⟨ft_Pg.blind, fun U hU hW => ⟨rfl, by rw [hU]; exact hP, hK.warm hW, hD.weaken (fun _ _ _ _ => trivial), by rw [hU]; exact hz⟩⟩
theorem ft_grne {x : Int32} {q m : Nat} (e : x = nI q) (h : m < q) (hq : q ≤ 200000) : ¬ x = nI m := by
  subst e
  intro h2
  have := (nI_eq (by omega) (by omega)).mp h2
  omega
set_option maxHeartbeats 4000000 in
set_option maxRecDepth 100000 in
theorem c_J7_copyOf_g (l : Launch) (dC : va_G) (ad : Nat → Nat) (k : Nat → ClassId) (u : ft_TY) (x2 : Int32) (q sz : Nat) (h1 : x2 = nI q) (h2 : u.1 < q) (h3 : q ≤ 150) (hf : sb_Fit u.2) : Met l yJ7_copyOf_9075b wsJ7_copyOf_9075b ({ frames := 1, cells := 1, slots := 150, locals := 60 }) (ft_Pg dC k [.ref (ad 0), .int x2] (ft_WY ad k u) sz) (va_Qr (fun _ : Unit => True) (fun _ a t => sz ≤ a ∧ va_P dC vwCl (ft_WY (fun _ => a) k (q, va_cpy u.2 (fun _ => 0) 0 0 u.1)) t.heap) (ft_An 1 ad sz)) 1 150 (ft_An 1 ad sz) := by
  refine va_MetF (cc := cJ7_copyOf_9075b) (maxL := 3) (ret := (some (.array .byte))) (by decide +kernel) rfl ?_
  intro p e s m args below meth c s₁ B hml hv
  obtain ⟨hargs, hP, hK, hD0, hsz⟩ := hv
  subst hargs
  have hx := B.exec
  have hb := B.bytes
  have hr := B.returns
  have hts := atoms_spec (ws := wsJ7_copyOf_9075b) B.pre
  have hown : s.vm.findClass RJ7 = some m.cls := findClass_of_methodNamed B.named
  have hlocks := B.notSynchronized
  have hD : va_D (ft_An 1 ad sz) (ft_WY ad k u) := (ft_D_self hD0).weaken (fun _ _ _ h => Or.inl h)
  have hS : va_S (ft_An 1 ad sz) s.heap s.heap [] := va_S.rf
  have hl := lv_entry ([.ref (ad 0), .int x2]) (n := 3) (Nat.le_of_ble_eq_true rfl)
  rw [lg_entry_eq]
  generalize (lg_sl ([.ref (ad 0), .int x2]) ++ List.replicate (3 - (lg_sl ([.ref (ad 0), .int x2])).length) Slot.unset).toArray = ls at hl ⊢
  have hl : lv_has ls 3 [(0, .ref (ad 0)), (1, .int x2)] := hl
  have hq0 : ¬ x2 < 0 := by rw [h1]; exact nI_pos (by omega)
  have hqn : x2.toNatClampNeg = q := by rw [h1]; exact nI_clamp (by omega)
  refine lv_iload_n hx hb dJ7_copyOf_9075b_0 rfl (lv_at hl 1 rfl) ?_
  refine lv_aload_n hx hb dJ7_copyOf_9075b_1 rfl (lv_at hl 0 rfl) ?_
  refine va_alen (v := nI u.1) hx hb hK.1 hP 0 4 (ft_get' (by decide) rfl) rfl rfl dJ7_copyOf_9075b_2 ?_
  refine lv_icmp_ne (tgt := 14) hx hb dJ7_copyOf_9075b_3 (by decide) (fun c_3 => ?_) (fun c_3 => ?_)
  · refine lv_iload_n hx hb dJ7_copyOf_9075b_14 rfl (lv_at hl 1 rfl) ?_
    refine va_newa (atype := .byte) (ty := .byte) (N' := q) (a0 := (q, .inl (fun _ => 0))) hx hb (hts (.arrayClass .byte) (by decide +kernel)) rfl hK.1 hP hD hS (fun z hz => Or.inr (Nat.le_trans hsz hz)) (fun _ => rfl) hq0 hqn (by show q * 1 ≤ 536870912; omega) (Nat.le_of_ble_eq_true rfl) (by show 0 + q ≤ 150; omega) dJ7_copyOf_9075b_15 (fun qa cA H1 hK1 hP1 hD1 hS1 => ?_)
    have ec : cA = k 4 := Option.some.inj ((hK1.2 5 _ rfl).2.symm.trans (hK1.2 4 _ rfl).2)
    subst ec
    have hge : sz ≤ qa := by
      rcases hD1.2 1 _ rfl with ⟨j, hj, hq⟩ | h
      · obtain rfl : j = 0 := by omega
        have h0 : (0 : Nat) = 1 := hD1.1 0 1 _ _ rfl rfl hq.symm
        omega
      · exact h
    refine lv_astore_n (lv' := [(2, .ref qa), (0, .ref (ad 0)), (1, .int x2)]) hx hb dJ7_copyOf_9075b_17 rfl hl (by decide) rfl (fun ls hl => ?_)
    refine lv_aload_n hx hb dJ7_copyOf_9075b_18 rfl (lv_at hl 1 rfl) ?_
    refine lv_iconst (v := 0) hx hb dJ7_copyOf_9075b_19 (by decide) ?_
    refine lv_aload_n hx hb dJ7_copyOf_9075b_20 rfl (lv_at hl 0 rfl) ?_
    refine lv_iconst (v := 0) hx hb dJ7_copyOf_9075b_21 (by decide) ?_
    refine lv_aload_n hx hb dJ7_copyOf_9075b_22 rfl (lv_at hl 1 rfl) ?_
    refine va_alen (v := nI u.1) hx hb hK1 hP1 0 4 rfl rfl rfl dJ7_copyOf_9075b_23 ?_
    refine lv_iload_n hx hb dJ7_copyOf_9075b_24 rfl (lv_at hl 2 rfl) ?_
    refine va_mmin hx hb (hml.trans hl.1.symm) hown (hts (.methodLink RJ7 304 Lib.Math.min.name) (by decide +kernel)) (hts (.static Lib.Math.min.name) (by decide +kernel)) (hts (.initialized "java/lang/Math") (by decide +kernel)) (hts (.code Lib.Math.min.name Lib.Math.min.code 2 (some .int)) (by decide +kernel)) (Nat.le_of_ble_eq_true rfl) (Nat.le_of_ble_eq_true rfl) (Nat.le_of_ble_eq_true rfl) (by show 0 + q ≤ 150; omega) dJ7_copyOf_9075b_25 ?_
    rw [if_neg (show ¬ x2 < nI u.1 by rw [h1]; exact nI_nlt (by omega) (by omega))]
    have em : (nI u.1).toNatClampNeg = u.1 := nI_clamp (by omega)
    refine va_copyi hx hb (hml.trans hl.1.symm) hown (hts (.methodLink RJ7 150 arraycopyName) (by decide +kernel)) (hts (.native arraycopyName) (by decide +kernel)) (hts (.static arraycopyName) (by decide +kernel)) (hts (.initialized "java/lang/System") (by decide +kernel)) hK1 hP1 hD1 hS1 0 1 4 5 rfl rfl rfl rfl rfl (by decide) (by decide) (nI_pos (by omega)) (by rw [em, sb_cl0]; omega) (by rw [em, sb_cl0]; omega) (fun i _ => hf _) (Nat.le_of_ble_eq_true rfl) (Nat.le_of_ble_eq_true rfl) dJ7_copyOf_9075b_28 (fun H locs hP hD hS => ?_)
    rw [em, sb_cl0] at hP
    refine lv_aload_n hx hb dJ7_copyOf_9075b_31 rfl (lv_at hl 0 rfl) ?_
    refine W.widen (k := 1) (n := 150) (by decide) (by omega) ?_
    exact W.aret (v := .ref qa) hx hb hr (Or.inr ⟨_, rfl⟩) (Or.inr ⟨_, rfl⟩) (fun t ht hW => ⟨⟨(), qa, rfl, trivial, hge, ft_heap ht (ft_one hP)⟩, hS.F ht⟩) hS.2.2 dJ7_copyOf_9075b_32
  · exact absurd c_3 (ft_grne h1 h2 (by omega))
