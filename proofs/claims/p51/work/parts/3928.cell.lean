def ft_cl (L : Nat) (xs : Nat → Int32) (x : Int32) : Int32 := if nI L = 0 then 577 * x else xs (tn ((x &&& 65535) - (x &&& 65535) / nI L * nI L))
theorem ft_yL (x : Int32) {L : Nat} (h0 : 0 < L) (hL : L < 2 ^ 31) : vp_in ((x &&& 65535) - (x &&& 65535) / nI L * nI L) L := by
  obtain ⟨j, h1, h2⟩ := pk_andE x (m := 65535) 16 (by decide)
  refine pk_in (j % L) L (Nat.mod_lt _ h0) ?_ hL
  rw [h2]
  exact pk_rem (a := j) (d := L) (by omega) h0 hL
def ft_Pcl (b L : Nat) (xs : Nat → Int32) (As : List Value) : Array Value → State → Prop := va_Pc As (fun U => va_X b L xs U U.heap)
theorem ft_Pcl.blind {b L : Nat} {xs : Nat → Int32} {As : List Value} : FrameBlind (ft_Pcl b L xs As) := fun _ U _ _ q => ⟨q.1, va_X.moved (u := U) (Vm.Alike.refl U.vm) q.2⟩
theorem ft_preC {b L : Nat} {xs : Nat → Int32} {A : Nat → Prop} {s : State} {H : Heap} {locs : List Loc} {As : List Value} (hX : va_X b L xs s s.heap) (hbl : b < s.heap.size) (hbA : ¬ A b) (hS : va_S A s.heap H locs) : PreS s H (ft_Pcl b L xs As) As :=
  ⟨ft_Pcl.blind, fun U hU hW => ⟨rfl, by show va_X b L xs U U.heap; rw [hU]; exact (va_X.moved hW.alike hX).kept (hS.2.1 b hbl hbA)⟩⟩
set_option maxHeartbeats 4000000 in
set_option maxRecDepth 100000 in
theorem c_L_cell (l : Launch) (b L : Nat) (xs : Nat → Int32) (hL : L ≤ 260) (x2 : Int32) : Met l yL_cell wsL_cell ({ frames := 0, cells := 0, slots := 0, locals := 0 }) (ft_Pcl b L xs [.ref b, .int x2]) (vp_Si (fun z : Int32 => z = ft_cl L xs x2)) 0 0 (fun _ => False) := by
  refine Met.ofW (cc := cL_cell) (maxL := 2) (ret := (some .int)) (by decide) rfl ?_
  intro p e s m args below meth c s₁ B hml hv
  obtain ⟨hargs, hX⟩ := hv
  subst hargs
  have hx := B.exec
  have hb := B.bytes
  have hr := B.returns
  have hts := atoms_spec (ws := wsL_cell) B.pre
  have hown : s.vm.findClass RL = some m.cls := findClass_of_methodNamed B.named
  have hlocks := B.notSynchronized
  have hbl : b < s.heap.size := by obtain ⟨scr, h1, -⟩ := hX; exact (Array.getElem?_eq_some_iff.mp h1).1
  have hS : va_S (fun _ => False) s.heap s.heap [] := va_S.rf
  have hl := lv_entry ([.ref b, .int x2]) (n := 2) (Nat.le_of_ble_eq_true rfl)
  rw [lg_entry_eq]
  generalize (lg_sl ([.ref b, .int x2]) ++ List.replicate (2 - (lg_sl ([.ref b, .int x2])).length) Slot.unset).toArray = ls at hl ⊢
  have hl : lv_has ls 2 [(0, .ref b), (1, .int x2)] := hl
  have hsp := (ft_cl.eq_1 L xs x2).symm
  refine lv_aload_n hx hb dL_cell_0 rfl (lv_at hl 0 rfl) ?_
  refine va_slen hx hb hX hbl (fun h => h) hS dL_cell_1 ?_
  refine lv_if_ne (tgt := 13) hx hb dL_cell_2 (by decide) (fun c_2 => ?_) (fun c_2 => ?_)
  · replace hsp := (if_neg c_2).symm.trans hsp
    have hne : ¬ nI L = 0 := c_2
    have h0 : 0 < L := Nat.pos_of_ne_zero (fun h => hne (by rw [h]; rfl))
    refine lv_aload_n hx hb dL_cell_13 rfl (lv_at hl 0 rfl) ?_
    refine lv_iload_n hx hb dL_cell_14 rfl (lv_at hl 1 rfl) ?_
    refine lv_ldc hx hb hown (hts (.constant RL 7 (65535)) (by decide +kernel)) dL_cell_15 ?_
    refine lv_iand hx hb dL_cell_17 ?_
    refine lv_aload_n hx hb dL_cell_18 rfl (lv_at hl 0 rfl) ?_
    refine va_slen hx hb hX hbl (fun h => h) hS dL_cell_19 ?_
    refine lv_irem hx hb dL_cell_20 hne ?_
    refine va_sld hx hb hX hbl (fun h => h) hS (ft_yL x2 h0 (by omega)) dL_cell_21 ?_
    exact W.iret hx hb hr (fun t ht hW => ft_endi (post := fun z : Int32 => z = ft_cl L xs x2) hsp ht) (fun _ h => absurd h List.not_mem_nil) dL_cell_22
  · replace hsp := (if_pos c_2).symm.trans hsp
    refine lv_sipush (v := 577) hx hb dL_cell_5 (by decide) ?_
    refine lv_iload_n hx hb dL_cell_8 rfl (lv_at hl 1 rfl) ?_
    refine lv_imul hx hb dL_cell_9 ?_
    refine lv_goto (tgt := 22) hx hb dL_cell_10 (by decide) ?_
    exact W.iret hx hb hr (fun t ht hW => ft_endi (post := fun z : Int32 => z = ft_cl L xs x2) hsp ht) (fun _ h => absurd h List.not_mem_nil) dL_cell_22
theorem ft_L36 {L : Nat} (hL : L ≤ 260) : tn (nI L) = L := nI_clamp (show L < 2 ^ 31 by omega)
