/-- a state with the row r alone: what a reader answers is a matter of the square's row -/
def ft_nr (r : Nat → Int32) : ft_Sg := (fun _ => r, fun _ => 0, fun _ => 0, ((0, fun _ => 0), (0, fun _ => 0), fun _ => 0, fun _ _ => 0))
theorem ft_ev {α β : Type} {q r : α} {v : β} {f : α → β} (hr : q = r) (h : f r = v) : f q = v := by rw [hr]; exact h
theorem ft_exi {v b : Int32} {i : Nat} (hi : v = nI i) (hm : i ≤ tn b) (h : b ≤ v) : i = tn b := by
  subst hi
  have h1 : b.toInt < 2 ^ 31 := Int32.toInt_lt b
  have h2 : tn b = b.toInt.toNat := rfl
  have h4 : (nI i).toInt = (i : Int) := nI_toInt (by omega)
  rw [Int32.le_iff_toInt_le, h4] at h
  omega
theorem ft_cmp0 {x : Int64} : lg_cmp x x = 0 := by simp [lg_cmp]
def s_L_stocks_L4 (r : Nat → Int32) (x2 : Int32) (K : Int32 → Int32 → (Int32)) : Nat → Int32 → Int32 → (Int32)
  | 0, y2_4, y3_4 => K y2_4 y3_4
  | n + 1, y2_4, y3_4 => if 4 ≤ y3_4 then (K y2_4 y3_4) else (s_L_stocks_L4 r x2 K n (y2_4 + (p_stock (ft_nr r) x2 y3_4)) (y3_4 + 1))
def s_L_stocks (r : Nat → Int32) (x2 : Int32) : Int32 := s_L_stocks_L4 r x2 (fun y2_4 y3_4 => y2_4) (tn 4 + 1) 0 0
set_option maxHeartbeats 4000000 in
set_option maxRecDepth 100000 in
theorem c_L_stocks (l : Launch) (hl0 : l.stackTraces = false) (D : va_G) (Z : Nat → Nat → Nat) (k : Nat → ClassId) (sz : ft_SZ) (a : Nat) (σ : ft_Sg) (r : Nat → Int32) (hq : σ.1 0 = r) (x2 : Int32) (hT : ¬ s_X4_isTruck r x2 = 0) : Met l yL_stocks wsL_stocks ({ frames := 8, cells := 8, slots := 48, locals := 133 }) (ft_PM D k Z sz a σ [.ref a, .int x2]) (ft_QWr D k Z sz a σ (s_L_stocks r x2)) 8 48 (ft_AL sz) := by
  refine Met.ofW (cc := cL_stocks) (maxL := 4) (ret := (some .int)) (by decide) rfl ?_
  intro p e s m args below meth c s₁ B hml hv
  obtain ⟨hargs, hP, hEL, hz⟩ := hv
  have hE := hEL.1
  subst hargs
  have hx := B.exec
  have hb := B.bytes
  have hr := B.returns
  have hts := atoms_spec (ws := wsL_stocks) B.pre
  have hown : s.vm.findClass RL = some m.cls := findClass_of_methodNamed B.named
  have hlocks := B.notSynchronized
  have hS : va_S (ft_AL sz) s.heap s.heap [] := va_S.rf
  have hl := lv_entry ([.ref a, .int x2]) (n := 4) (Nat.le_of_ble_eq_true rfl)
  rw [lg_entry_eq]
  generalize (lg_sl ([.ref a, .int x2]) ++ List.replicate (4 - (lg_sl ([.ref a, .int x2])).length) Slot.unset).toArray = ls at hl ⊢
  have hl : lv_has ls 4 [(0, .ref (a)), (1, .int (x2))] := hl
  have hsp := (s_L_stocks.eq_1 r x2).symm
  refine lv_iconst (v := 0) hx hb dL_stocks_0 (by decide) ?_
  refine lv_istore_n (lv' := [(2, .int (0)), (0, .ref (a)), (1, .int (x2))]) hx hb dL_stocks_1 rfl hl (by decide) rfl (fun ls hl => ?_)
  refine lv_iconst (v := 0) hx hb dL_stocks_2 (by decide) ?_
  refine lv_istore_n (lv' := [(3, .int (0)), (2, .int (0)), (0, .ref (a)), (1, .int (x2))]) hx hb dL_stocks_3 rfl hl (by decide) rfl (fun ls hl => ?_)
  have loop_4 : ∀ (K : Int32 → Int32 → (Int32)) (hKx : ∀ (y2_4 : Int32) (y3_4 : Int32) (i_4 : Nat) (hi_4 : y3_4 = nI i_4) (hm_4 : i_4 ≤ tn 4) (H : Heap) (locs : List Loc) (hP : ft_LW D k Z sz a σ H) (hS : va_S (ft_AL sz) s.heap H locs) (ls : Array Slot) (hl : lv_has ls 4 [(3, .int (y3_4)), (2, .int (y2_4)), (0, .ref (a)), (1, .int (x2))]) (hsp : K y2_4 y3_4 = s_L_stocks r x2), W p l e (headSpec wsL_stocks ({ frames := 8, cells := 8, slots := 48, locals := 133 })).room s m ([.ref a, .int x2] : List Value).toArray below meth c H locs (0 + 8) (0 + 48) (MQ below (ft_QWr D k Z sz a σ (s_L_stocks r x2)) ([.ref a, .int x2] : List Value).toArray s 8 48 (ft_AL sz)) (F0 m 24 ls [])) (n_4 : Nat), ∀ (y2_4 : Int32) (y3_4 : Int32) (i_4 : Nat) (hi_4 : y3_4 = nI i_4) (hm_4 : i_4 ≤ tn 4) (hn_4 : tn 4 < n_4 + i_4) (H : Heap) (locs : List Loc) (hP : ft_LW D k Z sz a σ H) (hS : va_S (ft_AL sz) s.heap H locs) (ls : Array Slot) (hl : lv_has ls 4 [(3, .int (y3_4)), (2, .int (y2_4)), (0, .ref (a)), (1, .int (x2))]) (hsp : s_L_stocks_L4 r x2 K n_4 y2_4 y3_4 = s_L_stocks r x2), W p l e (headSpec wsL_stocks ({ frames := 8, cells := 8, slots := 48, locals := 133 })).room s m ([.ref a, .int x2] : List Value).toArray below meth c H locs (0 + 2 * i_4) (0 + 12 * i_4) (MQ below (ft_QWr D k Z sz a σ (s_L_stocks r x2)) ([.ref a, .int x2] : List Value).toArray s 8 48 (ft_AL sz)) (F0 m 4 ls []) := by
    intro K hKx n_4
    induction n_4 with
    | zero => intro y2_4 y3_4 i_4 hi_4 hm_4 hn_4; exact absurd hn_4 (by omega)
    | succ n ih_4 =>
      intro y2_4 y3_4 i_4 hi_4 hm_4 hn_4 H locs hP hS ls hl hsp
      rw [s_L_stocks_L4] at hsp
      have hm5_4 : i_4 ≤ 4 := hm_4
      refine lv_iload_n hx hb dL_stocks_4 rfl (lv_at hl 0 rfl) ?_
      refine lv_iconst (v := 4) hx hb dL_stocks_5 (by decide) ?_
      refine lv_icmp_ge (tgt := 24) hx hb dL_stocks_6 (by decide) (fun c_6 => ?_) (fun c_6 => ?_)
      · replace hsp := (if_pos c_6).symm.trans hsp
        refine W.widen (k := 0 + 8) (n := 0 + 48) (by omega) (by omega) ?_
        exact hKx y2_4 y3_4 i_4 hi_4 hm_4 _ _ hP hS ls (lv_sub hl [0, 1, 2, 3] rfl) hsp
      · replace hsp := (if_neg c_6).symm.trans hsp
        have hlt_4 := ft_step hi_4 hm_4 c_6
        have hl5_4 : i_4 + 1 ≤ 4 := hlt_4
        refine lv_iload_n hx hb dL_stocks_9 rfl (lv_at hl 1 rfl) ?_
        refine lv_aload_n hx hb dL_stocks_10 rfl (lv_at hl 2 rfl) ?_
        refine lv_iload_n hx hb dL_stocks_11 rfl (lv_at hl 3 rfl) ?_
        refine lv_iload_n hx hb dL_stocks_12 rfl (lv_at hl 0 rfl) ?_
        refine va_calli (va_runV (As := [.int (x2), .int (y3_4)]) (rest := [.int (y2_4)]) ⟨hx, hb, hml, hown, hts⟩ (ft_noX (z := p_stock (ft_nr r) x2 y3_4) (cl_stock l hl0 D Z k sz a σ x2 y3_4 ) (ft_ev (f := fun q9 => l_stock (ft_nr q9) x2 y3_4) hq (ok_stock hT (ft_nd hi_4 hl5_4)))) (cwV 2 hts gL_stocks_X7_stock rfl rfl rfl (by decide +kernel) ⟨Nat.le_of_ble_eq_true rfl, Nat.le_of_ble_eq_true rfl⟩) (ft_preL hE hz hS hP) rfl rfl hl.1 rfl (lv_room (Nat.le_of_ble_eq_true rfl)) dL_stocks_13 ⟨(show 0 + 2 * i_4 + 2 ≤ 8 by omega), (show 0 + 12 * i_4 + 12 ≤ 48 by omega)⟩) hS (fun _ _ h => h) (fun _ h => h) (fun z u t H1 locs1 ht hvm hw hB hz1 hk1 hS1 => ?_)
        obtain rfl : p_stock (ft_nr r) x2 y3_4 = z := Eq.symm hw
        rw [ht] at hB
        have hP := hB
        have hS := hS1
        clear hS1
        generalize H1 = H at hP hS ⊢
        refine W.widen (k := 2 + 2 * i_4) (n := 12 + 12 * i_4) (by omega) (by omega) ?_
        refine lv_iadd hx hb dL_stocks_16 ?_
        refine lv_istore_n (lv' := [(2, .int (y2_4 + (p_stock (ft_nr r) x2 y3_4))), (3, .int (y3_4)), (0, .ref (a)), (1, .int (x2))]) hx hb dL_stocks_17 rfl hl (by decide) rfl (fun ls hl => ?_)
        refine lv_iinc (v := y3_4 + 1) (lv' := [(3, .int (y3_4 + 1)), (2, .int (y2_4 + (p_stock (ft_nr r) x2 y3_4))), (0, .ref (a)), (1, .int (x2))]) hx hb dL_stocks_18 hl (k := 1) rfl rfl (by decide) rfl (fun ls hl => ?_)
        refine lv_goto (tgt := 4) hx hb dL_stocks_21 (by decide) ?_
        refine W.widen (k := 0 + 2 * (i_4 + 1)) (n := 0 + 12 * (i_4 + 1)) (by omega) (by omega) ?_
        exact ih_4 (y2_4 + (p_stock (ft_nr r) x2 y3_4)) (y3_4 + 1) (i_4 + 1) (by rw [hi_4, nI_1]) hlt_4 (by omega) _ _ hP hS ls (lv_sub hl [0, 1, 2, 3] rfl) hsp
  refine W.widen (k := 0 + 2 * 0) (n := 0 + 12 * 0) (by omega) (by omega) ?_
  refine loop_4 _ (fun y2_4 y3_4 i_4 hi_4 hm_4 H locs hP hS ls hl hsp => ?_) (tn 4 + 1) 0 0 0 rfl (Nat.zero_le _) (by omega) _ _ hP hS ls (lv_sub hl [0, 1, 2, 3] rfl) hsp
  refine W.widen (k := 8) (n := 48) (by omega) (by omega) ?_
  refine lv_iload_n hx hb dL_stocks_24 rfl (lv_at hl 1 rfl) ?_
  refine W.widen (k := 8) (n := 48) (by omega) (by omega) ?_
  exact W.iret (v := y2_4) hx hb hr (fun t ht hW => ⟨⟨y2_4, (), rfl, hsp, by show ft_LW D k Z sz a _ t.heap; rw [ht]; exact hP⟩, hS.F ht⟩) hS.2.2 dL_stocks_25

def s_L_freeOn_L2 (r : Nat → Int32) (x2 : Int32) (K : Int32 → (Int32)) : Nat → Int32 → (Int32)
  | 0, y2_2 => K y2_2
  | n + 1, y2_2 => if 5 ≤ y2_2 then (K y2_2) else (if (w_truckAt (ft_nr r) y2_2 x2) = (-1000) then (y2_2) else (s_L_freeOn_L2 r x2 K n (y2_2 + 1)))
def s_L_freeOn (r : Nat → Int32) (x2 : Int32) : Int32 := s_L_freeOn_L2 r x2 (fun y2_2 => (-1000)) (tn 5 + 1) 0
set_option maxHeartbeats 4000000 in
set_option maxRecDepth 100000 in
theorem c_L_freeOn (l : Launch) (hl0 : l.stackTraces = false) (D : va_G) (Z : Nat → Nat → Nat) (k : Nat → ClassId) (sz : ft_SZ) (a : Nat) (σ : ft_Sg) (r : Nat → Int32) (hq : σ.1 0 = r) (x2 : Int32) : Met l yL_freeOn wsL_freeOn ({ frames := 9, cells := 15, slots := 90, locals := 176 }) (ft_PM D k Z sz a σ [.ref a, .int x2]) (ft_QWr D k Z sz a σ (s_L_freeOn r x2)) 15 90 (ft_AL sz) := by
  refine Met.ofW (cc := cL_freeOn) (maxL := 3) (ret := (some .int)) (by decide) rfl ?_
  intro p e s m args below meth c s₁ B hml hv
  obtain ⟨hargs, hP, hEL, hz⟩ := hv
  have hE := hEL.1
  subst hargs
  have hx := B.exec
  have hb := B.bytes
  have hr := B.returns
  have hts := atoms_spec (ws := wsL_freeOn) B.pre
  have hown : s.vm.findClass RL = some m.cls := findClass_of_methodNamed B.named
  have hlocks := B.notSynchronized
  have hS : va_S (ft_AL sz) s.heap s.heap [] := va_S.rf
  have hl := lv_entry ([.ref a, .int x2]) (n := 3) (Nat.le_of_ble_eq_true rfl)
  rw [lg_entry_eq]
  generalize (lg_sl ([.ref a, .int x2]) ++ List.replicate (3 - (lg_sl ([.ref a, .int x2])).length) Slot.unset).toArray = ls at hl ⊢
  have hl : lv_has ls 3 [(0, .ref (a)), (1, .int (x2))] := hl
  have hsp := (s_L_freeOn.eq_1 r x2).symm
  refine lv_iconst (v := 0) hx hb dL_freeOn_0 (by decide) ?_
  refine lv_istore_n (lv' := [(2, .int (0)), (0, .ref (a)), (1, .int (x2))]) hx hb dL_freeOn_1 rfl hl (by decide) rfl (fun ls hl => ?_)
  have loop_2 : ∀ (K : Int32 → (Int32)) (hKx : ∀ (y2_2 : Int32) (i_2 : Nat) (hi_2 : y2_2 = nI i_2) (hm_2 : i_2 ≤ tn 5) (H : Heap) (locs : List Loc) (hP : ft_LW D k Z sz a σ H) (hS : va_S (ft_AL sz) s.heap H locs) (ls : Array Slot) (hl : lv_has ls 3 [(2, .int (y2_2)), (0, .ref (a)), (1, .int (x2))]) (hsp : K y2_2 = s_L_freeOn r x2), W p l e (headSpec wsL_freeOn ({ frames := 9, cells := 15, slots := 90, locals := 176 })).room s m ([.ref a, .int x2] : List Value).toArray below meth c H locs (0 + 15) (0 + 90) (MQ below (ft_QWr D k Z sz a σ (s_L_freeOn r x2)) ([.ref a, .int x2] : List Value).toArray s 15 90 (ft_AL sz)) (F0 m 27 ls [])) (n_2 : Nat), ∀ (y2_2 : Int32) (i_2 : Nat) (hi_2 : y2_2 = nI i_2) (hm_2 : i_2 ≤ tn 5) (hn_2 : tn 5 < n_2 + i_2) (H : Heap) (locs : List Loc) (hP : ft_LW D k Z sz a σ H) (hS : va_S (ft_AL sz) s.heap H locs) (ls : Array Slot) (hl : lv_has ls 3 [(2, .int (y2_2)), (0, .ref (a)), (1, .int (x2))]) (hsp : s_L_freeOn_L2 r x2 K n_2 y2_2 = s_L_freeOn r x2), W p l e (headSpec wsL_freeOn ({ frames := 9, cells := 15, slots := 90, locals := 176 })).room s m ([.ref a, .int x2] : List Value).toArray below meth c H locs (0 + 3 * i_2) (0 + 18 * i_2) (MQ below (ft_QWr D k Z sz a σ (s_L_freeOn r x2)) ([.ref a, .int x2] : List Value).toArray s 15 90 (ft_AL sz)) (F0 m 2 ls []) := by
    intro K hKx n_2
    induction n_2 with
    | zero => intro y2_2 i_2 hi_2 hm_2 hn_2; exact absurd hn_2 (by omega)
    | succ n ih_2 =>
      intro y2_2 i_2 hi_2 hm_2 hn_2 H locs hP hS ls hl hsp
      rw [s_L_freeOn_L2] at hsp
      have hm5_2 : i_2 ≤ 5 := hm_2
      refine lv_iload_n hx hb dL_freeOn_2 rfl (lv_at hl 0 rfl) ?_
      refine lv_iconst (v := 5) hx hb dL_freeOn_3 (by decide) ?_
      refine lv_icmp_ge (tgt := 27) hx hb dL_freeOn_4 (by decide) (fun c_4 => ?_) (fun c_4 => ?_)
      · replace hsp := (if_pos c_4).symm.trans hsp
        refine W.widen (k := 0 + 15) (n := 0 + 90) (by omega) (by omega) ?_
        exact hKx y2_2 i_2 hi_2 hm_2 _ _ hP hS ls (lv_sub hl [0, 1, 2] rfl) hsp
      · replace hsp := (if_neg c_4).symm.trans hsp
        have hlt_2 := ft_step hi_2 hm_2 c_4
        have hl5_2 : i_2 + 1 ≤ 5 := hlt_2
        refine lv_aload_n hx hb dL_freeOn_7 rfl (lv_at hl 1 rfl) ?_
        refine lv_iload_n hx hb dL_freeOn_8 rfl (lv_at hl 0 rfl) ?_
        refine lv_iload_n hx hb dL_freeOn_9 rfl (lv_at hl 2 rfl) ?_
        refine va_calli (vx_runSW (As := [.ref (a), .int (y2_2), .int (x2)]) (rest := []) ⟨hx, hb, hml, hown, hts⟩ (d_L_truckAt l hl0 D Z k sz a σ y2_2 x2 (ex_truckAt)) (vx_cwSW 3 hts gL_freeOn_L_truckAt rfl rfl rfl (by decide +kernel) ⟨Nat.le_of_ble_eq_true rfl, Nat.le_of_ble_eq_true rfl⟩) (ft_preM hEL hz hS hP) rfl rfl hl.1 rfl (lv_room (Nat.le_of_ble_eq_true rfl)) dL_freeOn_10 ⟨(show 0 + 3 * i_2 + 3 ≤ 15 by omega), (show 0 + 18 * i_2 + 18 ≤ 90 by omega)⟩) hS (fun _ _ h => h) (fun _ h => h) (fun z u t H1 locs1 ht hvm hw hB hz1 hk1 hS1 => ?_)
        obtain rfl : z = w_truckAt (ft_nr r) y2_2 x2 := hw.trans (ft_ev (f := fun q9 => w_truckAt (ft_nr q9) y2_2 x2) hq rfl)
        rw [ht] at hB
        have hP := hB
        have hS := hS1
        clear hS1
        generalize H1 = H at hP hS ⊢
        refine W.widen (k := 3 + 3 * i_2) (n := 18 + 18 * i_2) (by omega) (by omega) ?_
        refine lv_sipush (v := (-1000)) hx hb dL_freeOn_13 (by decide) ?_
        refine lv_icmp_ne (tgt := 21) hx hb dL_freeOn_16 (by decide) (fun c_16 => ?_) (fun c_16 => ?_)
        · replace hsp := (if_neg c_16).symm.trans hsp
          refine lv_iinc (v := y2_2 + 1) (lv' := [(2, .int (y2_2 + 1)), (0, .ref (a)), (1, .int (x2))]) hx hb dL_freeOn_21 hl (k := 0) rfl rfl (by decide) rfl (fun ls hl => ?_)
          refine lv_goto (tgt := 2) hx hb dL_freeOn_24 (by decide) ?_
          refine W.widen (k := 0 + 3 * (i_2 + 1)) (n := 0 + 18 * (i_2 + 1)) (by omega) (by omega) ?_
          exact ih_2 (y2_2 + 1) (i_2 + 1) (by rw [hi_2, nI_1]) hlt_2 (by omega) _ _ hP hS ls (lv_sub hl [0, 1, 2] rfl) hsp
        · replace hsp := (if_pos c_16).symm.trans hsp
          refine lv_iload_n hx hb dL_freeOn_19 rfl (lv_at hl 0 rfl) ?_
          refine W.widen (k := 15) (n := 90) (by omega) (by omega) ?_
          exact W.iret (v := y2_2) hx hb hr (fun t ht hW => ⟨⟨y2_2, (), rfl, hsp, by show ft_LW D k Z sz a _ t.heap; rw [ht]; exact hP⟩, hS.F ht⟩) hS.2.2 dL_freeOn_20
  refine W.widen (k := 0 + 3 * 0) (n := 0 + 18 * 0) (by omega) (by omega) ?_
  refine loop_2 _ (fun y2_2 i_2 hi_2 hm_2 H locs hP hS ls hl hsp => ?_) (tn 5 + 1) 0 0 rfl (Nat.zero_le _) (by omega) _ _ hP hS ls (lv_sub hl [0, 1, 2] rfl) hsp
  refine W.widen (k := 15) (n := 90) (by omega) (by omega) ?_
  refine lv_sipush (v := (-1000)) hx hb dL_freeOn_27 (by decide) ?_
  refine W.widen (k := 15) (n := 90) (by omega) (by omega) ?_
  exact W.iret (v := (-1000)) hx hb hr (fun t ht hW => ⟨⟨(-1000), (), rfl, hsp, by show ft_LW D k Z sz a _ t.heap; rw [ht]; exact hP⟩, hS.F ht⟩) hS.2.2 dL_freeOn_30

def s_L_firstOf_L2 (r : Nat → Int32) (x2 : Int32) (K : Int32 → (Int32)) : Nat → Int32 → (Int32)
  | 0, y2_2 => K y2_2
  | n + 1, y2_2 => if 7 ≤ y2_2 then (K y2_2) else (if (p_hasPermit (ft_nr r) x2 y2_2) = 0 then (s_L_firstOf_L2 r x2 K n (y2_2 + 1)) else (if (w_pitchOf (ft_nr r) x2 y2_2) = (-1000) then (if (s_L_freeOn r y2_2) = (-1000) then (s_L_firstOf_L2 r x2 K n (y2_2 + 1)) else (y2_2)) else (s_L_firstOf_L2 r x2 K n (y2_2 + 1))))
def s_L_firstOf (r : Nat → Int32) (x2 : Int32) : Int32 := s_L_firstOf_L2 r x2 (fun y2_2 => (-1000)) (tn 7 + 1) 0
set_option maxHeartbeats 4000000 in
set_option maxRecDepth 100000 in
theorem c_L_firstOf (l : Launch) (hl0 : l.stackTraces = false) (D : va_G) (Z : Nat → Nat → Nat) (k : Nat → ClassId) (sz : ft_SZ) (a : Nat) (σ : ft_Sg) (r : Nat → Int32) (hq : σ.1 0 = r) (x2 : Int32) (hT : ¬ s_X4_isTruck r x2 = 0) : Met l yL_firstOf wsL_firstOf ({ frames := 10, cells := 140, slots := 840, locals := 198 }) (ft_PM D k Z sz a σ [.ref a, .int x2]) (ft_QWr D k Z sz a σ (s_L_firstOf r x2)) 140 840 (ft_AL sz) := by
  refine Met.ofW (cc := cL_firstOf) (maxL := 3) (ret := (some .int)) (by decide) rfl ?_
  intro p e s m args below meth c s₁ B hml hv
  obtain ⟨hargs, hP, hEL, hz⟩ := hv
  have hE := hEL.1
  subst hargs
  have hx := B.exec
  have hb := B.bytes
  have hr := B.returns
  have hts := atoms_spec (ws := wsL_firstOf) B.pre
  have hown : s.vm.findClass RL = some m.cls := findClass_of_methodNamed B.named
  have hlocks := B.notSynchronized
  have hS : va_S (ft_AL sz) s.heap s.heap [] := va_S.rf
  have hl := lv_entry ([.ref a, .int x2]) (n := 3) (Nat.le_of_ble_eq_true rfl)
  rw [lg_entry_eq]
  generalize (lg_sl ([.ref a, .int x2]) ++ List.replicate (3 - (lg_sl ([.ref a, .int x2])).length) Slot.unset).toArray = ls at hl ⊢
  have hl : lv_has ls 3 [(0, .ref (a)), (1, .int (x2))] := hl
  have hsp := (s_L_firstOf.eq_1 r x2).symm
  refine lv_iconst (v := 0) hx hb dL_firstOf_0 (by decide) ?_
  refine lv_istore_n (lv' := [(2, .int (0)), (0, .ref (a)), (1, .int (x2))]) hx hb dL_firstOf_1 rfl hl (by decide) rfl (fun ls hl => ?_)
  have loop_2 : ∀ (K : Int32 → (Int32)) (hKx : ∀ (y2_2 : Int32) (i_2 : Nat) (hi_2 : y2_2 = nI i_2) (hm_2 : i_2 ≤ tn 7) (H : Heap) (locs : List Loc) (hP : ft_LW D k Z sz a σ H) (hS : va_S (ft_AL sz) s.heap H locs) (ls : Array Slot) (hl : lv_has ls 3 [(2, .int (y2_2)), (0, .ref (a)), (1, .int (x2))]) (hsp : K y2_2 = s_L_firstOf r x2), W p l e (headSpec wsL_firstOf ({ frames := 10, cells := 140, slots := 840, locals := 198 })).room s m ([.ref a, .int x2] : List Value).toArray below meth c H locs (0 + 140) (0 + 840) (MQ below (ft_QWr D k Z sz a σ (s_L_firstOf r x2)) ([.ref a, .int x2] : List Value).toArray s 140 840 (ft_AL sz)) (F0 m 48 ls [])) (n_2 : Nat), ∀ (y2_2 : Int32) (i_2 : Nat) (hi_2 : y2_2 = nI i_2) (hm_2 : i_2 ≤ tn 7) (hn_2 : tn 7 < n_2 + i_2) (H : Heap) (locs : List Loc) (hP : ft_LW D k Z sz a σ H) (hS : va_S (ft_AL sz) s.heap H locs) (ls : Array Slot) (hl : lv_has ls 3 [(2, .int (y2_2)), (0, .ref (a)), (1, .int (x2))]) (hsp : s_L_firstOf_L2 r x2 K n_2 y2_2 = s_L_firstOf r x2), W p l e (headSpec wsL_firstOf ({ frames := 10, cells := 140, slots := 840, locals := 198 })).room s m ([.ref a, .int x2] : List Value).toArray below meth c H locs (0 + 20 * i_2) (0 + 120 * i_2) (MQ below (ft_QWr D k Z sz a σ (s_L_firstOf r x2)) ([.ref a, .int x2] : List Value).toArray s 140 840 (ft_AL sz)) (F0 m 2 ls []) := by
    intro K hKx n_2
    induction n_2 with
    | zero => intro y2_2 i_2 hi_2 hm_2 hn_2; exact absurd hn_2 (by omega)
    | succ n ih_2 =>
      intro y2_2 i_2 hi_2 hm_2 hn_2 H locs hP hS ls hl hsp
      rw [s_L_firstOf_L2] at hsp
      have hm5_2 : i_2 ≤ 7 := hm_2
      refine lv_iload_n hx hb dL_firstOf_2 rfl (lv_at hl 0 rfl) ?_
      refine lv_bipush (v := 7) hx hb dL_firstOf_3 (by decide) ?_
      refine lv_icmp_ge (tgt := 48) hx hb dL_firstOf_5 (by decide) (fun c_5 => ?_) (fun c_5 => ?_)
      · replace hsp := (if_pos c_5).symm.trans hsp
        refine W.widen (k := 0 + 140) (n := 0 + 840) (by omega) (by omega) ?_
        exact hKx y2_2 i_2 hi_2 hm_2 _ _ hP hS ls (lv_sub hl [0, 1, 2] rfl) hsp
      · replace hsp := (if_neg c_5).symm.trans hsp
        have hlt_2 := ft_step hi_2 hm_2 c_5
        have hl5_2 : i_2 + 1 ≤ 7 := hlt_2
        refine lv_aload_n hx hb dL_firstOf_8 rfl (lv_at hl 1 rfl) ?_
        refine lv_iload_n hx hb dL_firstOf_9 rfl (lv_at hl 2 rfl) ?_
        refine lv_iload_n hx hb dL_firstOf_10 rfl (lv_at hl 0 rfl) ?_
        refine va_calli (va_runV (As := [.int (x2), .int (y2_2)]) (rest := []) ⟨hx, hb, hml, hown, hts⟩ (ft_noX (z := p_hasPermit (ft_nr r) x2 y2_2) (cl_hasPermit l hl0 D Z k sz a σ x2 y2_2 ) (ft_ev (f := fun q9 => l_hasPermit (ft_nr q9) x2 y2_2) hq (ok_hasPermit hT (ft_nw hi_2 hl5_2)))) (cwV 2 hts gL_firstOf_X7_hasPermit rfl rfl rfl (by decide +kernel) ⟨Nat.le_of_ble_eq_true rfl, Nat.le_of_ble_eq_true rfl⟩) (ft_preL hE hz hS hP) rfl rfl hl.1 rfl (lv_room (Nat.le_of_ble_eq_true rfl)) dL_firstOf_11 ⟨(show 0 + 20 * i_2 + 2 ≤ 140 by omega), (show 0 + 120 * i_2 + 12 ≤ 840 by omega)⟩) hS (fun _ _ h => h) (fun _ h => h) (fun z u t H1 locs1 ht hvm hw hB hz1 hk1 hS1 => ?_)
        obtain rfl : p_hasPermit (ft_nr r) x2 y2_2 = z := Eq.symm hw
        rw [ht] at hB
        have hP := hB
        have hS := hS1
        clear hS1
        generalize H1 = H at hP hS ⊢
        refine W.widen (k := 2 + 20 * i_2) (n := 12 + 120 * i_2) (by omega) (by omega) ?_
        refine lv_if_eq (tgt := 42) hx hb dL_firstOf_14 (by decide) (fun c_14 => ?_) (fun c_14 => ?_)
        · replace hsp := (if_pos c_14).symm.trans hsp
          refine lv_iinc (v := y2_2 + 1) (lv' := [(2, .int (y2_2 + 1)), (0, .ref (a)), (1, .int (x2))]) hx hb dL_firstOf_42 hl (k := 0) rfl rfl (by decide) rfl (fun ls hl => ?_)
          refine lv_goto (tgt := 2) hx hb dL_firstOf_45 (by decide) ?_
          refine W.widen (k := 0 + 20 * (i_2 + 1)) (n := 0 + 120 * (i_2 + 1)) (by omega) (by omega) ?_
          exact ih_2 (y2_2 + 1) (i_2 + 1) (by rw [hi_2, nI_1]) hlt_2 (by omega) _ _ hP hS ls (lv_sub hl [0, 1, 2] rfl) hsp
        · replace hsp := (if_neg c_14).symm.trans hsp
          refine lv_aload_n hx hb dL_firstOf_17 rfl (lv_at hl 1 rfl) ?_
          refine lv_iload_n hx hb dL_firstOf_18 rfl (lv_at hl 2 rfl) ?_
          refine lv_iload_n hx hb dL_firstOf_19 rfl (lv_at hl 0 rfl) ?_
          refine va_calli (vx_runSW (As := [.ref (a), .int (x2), .int (y2_2)]) (rest := []) ⟨hx, hb, hml, hown, hts⟩ (d_L_pitchOf l hl0 D Z k sz a σ x2 y2_2 (ex_pitchOf)) (vx_cwSW 3 hts gL_firstOf_L_pitchOf rfl rfl rfl (by decide +kernel) ⟨Nat.le_of_ble_eq_true rfl, Nat.le_of_ble_eq_true rfl⟩) (ft_preM hEL hz hS hP) rfl rfl hl.1 rfl (lv_room (Nat.le_of_ble_eq_true rfl)) dL_firstOf_20 ⟨(show 2 + 20 * i_2 + 3 ≤ 140 by omega), (show 12 + 120 * i_2 + 18 ≤ 840 by omega)⟩) hS (fun _ _ h => h) (fun _ h => h) (fun z u t H1 locs1 ht hvm hw hB hz1 hk1 hS1 => ?_)
          obtain rfl : z = w_pitchOf (ft_nr r) x2 y2_2 := hw.trans (ft_ev (f := fun q9 => w_pitchOf (ft_nr q9) x2 y2_2) hq rfl)
          rw [ht] at hB
          have hP := hB
          have hS := hS1
          clear hS1
          generalize H1 = H at hP hS ⊢
          refine W.widen (k := 5 + 20 * i_2) (n := 30 + 120 * i_2) (by omega) (by omega) ?_
          refine lv_sipush (v := (-1000)) hx hb dL_firstOf_23 (by decide) ?_
          refine lv_icmp_ne (tgt := 42) hx hb dL_firstOf_26 (by decide) (fun c_26 => ?_) (fun c_26 => ?_)
          · replace hsp := (if_neg c_26).symm.trans hsp
            refine lv_iinc (v := y2_2 + 1) (lv' := [(2, .int (y2_2 + 1)), (0, .ref (a)), (1, .int (x2))]) hx hb dL_firstOf_42 hl (k := 0) rfl rfl (by decide) rfl (fun ls hl => ?_)
            refine lv_goto (tgt := 2) hx hb dL_firstOf_45 (by decide) ?_
            refine W.widen (k := 0 + 20 * (i_2 + 1)) (n := 0 + 120 * (i_2 + 1)) (by omega) (by omega) ?_
            exact ih_2 (y2_2 + 1) (i_2 + 1) (by rw [hi_2, nI_1]) hlt_2 (by omega) _ _ hP hS ls (lv_sub hl [0, 1, 2] rfl) hsp
          · replace hsp := (if_pos c_26).symm.trans hsp
            refine lv_aload_n hx hb dL_firstOf_29 rfl (lv_at hl 1 rfl) ?_
            refine lv_iload_n hx hb dL_firstOf_30 rfl (lv_at hl 0 rfl) ?_
            refine va_calli (va_runS (As := [.ref (a), .int (y2_2)]) (rest := []) ⟨hx, hb, hml, hown, hts⟩ (c_L_freeOn l hl0 D Z k sz a σ r hq y2_2 ) (va_cwS 2 hts gL_firstOf_L_freeOn rfl rfl rfl (by decide +kernel) ⟨Nat.le_of_ble_eq_true rfl, Nat.le_of_ble_eq_true rfl⟩) (ft_preM hEL hz hS hP) rfl rfl hl.1 rfl (lv_room (Nat.le_of_ble_eq_true rfl)) dL_firstOf_31 ⟨(show 5 + 20 * i_2 + 15 ≤ 140 by omega), (show 30 + 120 * i_2 + 90 ≤ 840 by omega)⟩) hS (fun _ _ h => h) (fun _ h => h) (fun z u t H1 locs1 ht hvm hw hB hz1 hk1 hS1 => ?_)
            obtain rfl : z = (s_L_freeOn r y2_2) := hw
            rw [ht] at hB
            have hP := hB
            have hS := hS1
            clear hS1
            generalize H1 = H at hP hS ⊢
            refine W.widen (k := 20 + 20 * i_2) (n := 120 + 120 * i_2) (by omega) (by omega) ?_
            refine lv_sipush (v := (-1000)) hx hb dL_firstOf_34 (by decide) ?_
            refine lv_icmp_eq (tgt := 42) hx hb dL_firstOf_37 (by decide) (fun c_37 => ?_) (fun c_37 => ?_)
            · replace hsp := (if_pos c_37).symm.trans hsp
              refine lv_iinc (v := y2_2 + 1) (lv' := [(2, .int (y2_2 + 1)), (0, .ref (a)), (1, .int (x2))]) hx hb dL_firstOf_42 hl (k := 0) rfl rfl (by decide) rfl (fun ls hl => ?_)
              refine lv_goto (tgt := 2) hx hb dL_firstOf_45 (by decide) ?_
              refine W.widen (k := 0 + 20 * (i_2 + 1)) (n := 0 + 120 * (i_2 + 1)) (by omega) (by omega) ?_
              exact ih_2 (y2_2 + 1) (i_2 + 1) (by rw [hi_2, nI_1]) hlt_2 (by omega) _ _ hP hS ls (lv_sub hl [0, 1, 2] rfl) hsp
            · replace hsp := (if_neg c_37).symm.trans hsp
              refine lv_iload_n hx hb dL_firstOf_40 rfl (lv_at hl 0 rfl) ?_
              refine W.widen (k := 140) (n := 840) (by omega) (by omega) ?_
              exact W.iret (v := y2_2) hx hb hr (fun t ht hW => ⟨⟨y2_2, (), rfl, hsp, by show ft_LW D k Z sz a _ t.heap; rw [ht]; exact hP⟩, hS.F ht⟩) hS.2.2 dL_firstOf_41
  refine W.widen (k := 0 + 20 * 0) (n := 0 + 120 * 0) (by omega) (by omega) ?_
  refine loop_2 _ (fun y2_2 i_2 hi_2 hm_2 H locs hP hS ls hl hsp => ?_) (tn 7 + 1) 0 0 rfl (Nat.zero_le _) (by omega) _ _ hP hS ls (lv_sub hl [0, 1, 2] rfl) hsp
  refine W.widen (k := 140) (n := 840) (by omega) (by omega) ?_
  refine lv_sipush (v := (-1000)) hx hb dL_firstOf_48 (by decide) ?_
  refine W.widen (k := 140) (n := 840) (by omega) (by omega) ?_
  exact W.iret (v := (-1000)) hx hb hr (fun t ht hW => ⟨⟨(-1000), (), rfl, hsp, by show ft_LW D k Z sz a _ t.heap; rw [ht]; exact hP⟩, hS.F ht⟩) hS.2.2 dL_firstOf_51

def s_L_digest_L78 (r : Nat → Int32)  (K : Int64 → Int32 → (Int64)) : Nat → Int64 → Int32 → (Int64)
  | 0, y1_78, y3_78 => K y1_78 y3_78
  | n + 1, y1_78, y3_78 => if 4 ≤ y3_78 then (K y1_78 y3_78) else (s_L_digest_L78 r K n ((31 * ((31 * y1_78) + ((p_price (ft_nr r) y3_78).toInt64))) + ((p_soldPortions (ft_nr r) y3_78).toInt64)) (y3_78 + 1))
def s_L_digest_L124 (r : Nat → Int32)  (y1_115 : Int64) (y3_115 : Int32) (K : Int64 → Int32 → (Int64)) : Nat → Int64 → Int32 → (Int64)
  | 0, y1_124, y4_124 => K y1_124 y4_124
  | n + 1, y1_124, y4_124 => if 5 ≤ y4_124 then (K y1_124 y4_124) else (s_L_digest_L124 r y1_115 y3_115 K n ((31 * y1_124) + ((w_truckAt (ft_nr r) y4_124 y3_115).toInt64)) (y4_124 + 1))
def s_L_digest_L115 (r : Nat → Int32)  (K : Int64 → Int32 → (Int64)) : Nat → Int64 → Int32 → (Int64)
  | 0, y1_115, y3_115 => K y1_115 y3_115
  | n + 1, y1_115, y3_115 => if 7 ≤ y3_115 then (K y1_115 y3_115) else (s_L_digest_L124 r y1_115 y3_115 (fun y1_124 y4_124 => s_L_digest_L115 r K n y1_124 (y3_115 + 1)) (tn 5 + 1) y1_115 0)
def s_L_digest_L205 (r : Nat → Int32)  (y1_159 : Int64) (y3_159 : Int32) (K : Int64 → Int32 → (Int64)) : Nat → Int64 → Int32 → (Int64)
  | 0, y1_205, y4_205 => K y1_205 y4_205
  | n + 1, y1_205, y4_205 => if 7 ≤ y4_205 then (K y1_205 y4_205) else (if (p_hasPermit (ft_nr r) y3_159 y4_205) = 0 then (s_L_digest_L205 r y1_159 y3_159 K n ((31 * y1_205) + ((0 : Int32).toInt64)) (y4_205 + 1)) else (s_L_digest_L205 r y1_159 y3_159 K n ((31 * y1_205) + ((1 : Int32).toInt64)) (y4_205 + 1)))
def s_L_digest_L244 (r : Nat → Int32)  (y1_159 : Int64) (y3_159 : Int32) (K : Int64 → Int32 → (Int64)) : Nat → Int64 → Int32 → (Int64)
  | 0, y1_244, y4_244 => K y1_244 y4_244
  | n + 1, y1_244, y4_244 => if 4 ≤ y4_244 then (K y1_244 y4_244) else (s_L_digest_L244 r y1_159 y3_159 K n ((31 * y1_244) + ((p_stock (ft_nr r) y3_159 y4_244).toInt64)) (y4_244 + 1))
def s_L_digest_L274 (r : Nat → Int32)  (y1_159 : Int64) (y3_159 : Int32) (K : Int64 → Int32 → (Int64)) : Nat → Int64 → Int32 → (Int64)
  | 0, y1_274, y4_274 => K y1_274 y4_274
  | n + 1, y1_274, y4_274 => if (p_queueLength (ft_nr r) y3_159) ≤ y4_274 then (K y1_274 y4_274) else (s_L_digest_L274 r y1_159 y3_159 K n ((31 * y1_274) + ((p_wantedDish (ft_nr r) y3_159 y4_274).toInt64)) (y4_274 + 1))
def s_L_digest_L159 (r : Nat → Int32)  (K : Int64 → Int32 → (Int64)) : Nat → Int64 → Int32 → (Int64)
  | 0, y1_159, y3_159 => K y1_159 y3_159
  | n + 1, y1_159, y3_159 => if (l_truckCount (ft_nr r)) ≤ y3_159 then (K y1_159 y3_159) else (s_L_digest_L205 r y1_159 y3_159 (fun y1_205 y4_205 => s_L_digest_L244 r y1_159 y3_159 (fun y1_244 y4_244 => s_L_digest_L274 r y1_159 y3_159 (fun y1_274 y4_274 => s_L_digest_L159 r K n y1_274 (y3_159 + 1)) (tn (p_queueLength (ft_nr r) y3_159) + 1) y1_244 0) (tn 4 + 1) y1_205 0) (tn 7 + 1) ((31 * ((31 * ((31 * y1_159) + ((p_coins (ft_nr r) y3_159).toInt64))) + ((p_minutesLeft (ft_nr r) y3_159).toInt64))) + ((p_queueLength (ft_nr r) y3_159).toInt64)) 0)
def s_L_digest (r : Nat → Int32)  : Int64 := s_L_digest_L78 r (fun y1_78 y3_78 => s_L_digest_L115 r (fun y1_115 y3_115 => s_L_digest_L159 r (fun y1_159 y3_159 => y1_159) (tn (l_truckCount (ft_nr r)) + 1) y1_115 0) (tn 7 + 1) y1_78 0) (tn 4 + 1) ((((((((7 * ((l_day (ft_nr r)).toInt64)) + (11 * ((l_minute (ft_nr r)).toInt64))) + (13 * ((l_weather (ft_nr r)).toInt64))) + (17 * ((l_arrivedTotal (ft_nr r)).toInt64))) + (19 * ((l_servedTotal (ft_nr r)).toInt64))) + (23 * ((l_disappointedTotal (ft_nr r)).toInt64))) + (29 * ((l_lostTotal (ft_nr r)).toInt64))) + ((l_truckCount (ft_nr r)).toInt64)) 0
set_option maxHeartbeats 4000000 in
set_option maxRecDepth 100000 in
theorem c_L_digest (l : Launch) (hl0 : l.stackTraces = false) (D : va_G) (Z : Nat → Nat → Nat) (k : Nat → ClassId) (sz : ft_SZ) (a : Nat) (σ : ft_Sg) (r : Nat → Int32) (hq : σ.1 0 = r) (hN : tn (l_truckCount (ft_nr r)) ≤ 6) (hT : ∀ (y : Int32) (i : Nat), y = nI i → i + 1 ≤ tn (l_truckCount (ft_nr r)) → ¬ s_X4_isTruck r y = 0) (hQ : ∀ (y : Int32) (i : Nat), y = nI i → i + 1 ≤ tn (l_truckCount (ft_nr r)) → tn (p_queueLength (ft_nr r) y) ≤ 9) (hWd : ∀ (y z : Int32) (i j : Nat), y = nI i → i + 1 ≤ tn (l_truckCount (ft_nr r)) → z = nI j → j + 1 ≤ tn (p_queueLength (ft_nr r) y) → ¬ s_X6_wishAt r (51 + 17 * tn y) z = -1) : Met l yL_digest wsL_digest ({ frames := 9, cells := 431, slots := 2586, locals := 176 }) (ft_PM D k Z sz a σ [.ref a]) (ft_QWl D k Z sz a σ (s_L_digest r)) 431 2586 (ft_AL sz) := by
  refine Met.ofW (cc := cL_digest) (maxL := 5) (ret := (some .long)) (by decide) rfl ?_
  intro p e s m args below meth c s₁ B hml hv
  obtain ⟨hargs, hP, hEL, hz⟩ := hv
  have hE := hEL.1
  subst hargs
  have hx := B.exec
  have hb := B.bytes
  have hr := B.returns
  have hts := atoms_spec (ws := wsL_digest) B.pre
  have hown : s.vm.findClass RL = some m.cls := findClass_of_methodNamed B.named
  have hlocks := B.notSynchronized
  have hS : va_S (ft_AL sz) s.heap s.heap [] := va_S.rf
  have hl := lv_entry ([.ref a]) (n := 5) (Nat.le_of_ble_eq_true rfl)
  rw [lg_entry_eq]
  generalize (lg_sl ([.ref a]) ++ List.replicate (5 - (lg_sl ([.ref a])).length) Slot.unset).toArray = ls at hl ⊢
  have hl : lv_has ls 5 [(0, .ref (a))] := hl
  have hsp := (s_L_digest.eq_1 r ).symm
  refine lv_ldc2 (v := 7) hx hb hown (hts (.constantLong RL 157 (7)) (by decide +kernel)) dL_digest_0 ?_
  refine lv_aload_n hx hb dL_digest_3 rfl (lv_at hl 0 rfl) ?_
  refine vp_callSi (va_Run.run (va_runV (As := []) (rest := [.long 7]) ⟨hx, hb, hml, hown, hts⟩ (cl_day l D Z k sz a σ) (cwV 0 hts gL_digest_X7_day rfl rfl rfl (by decide +kernel) ⟨Nat.le_of_ble_eq_true rfl, Nat.le_of_ble_eq_true rfl⟩) (ft_preL hE hz hS hP) rfl rfl hl.1 rfl (lv_room (Nat.le_of_ble_eq_true rfl)) dL_digest_4 ⟨Nat.le_of_ble_eq_true rfl, Nat.le_of_ble_eq_true rfl⟩)) (fun z hz9 => ?_)
  replace hz9 : z = l_day (ft_nr r) := hz9.trans (ft_ev (f := fun q9 => l_day (ft_nr q9)) hq rfl)
  subst hz9
  refine lv_i2l (v := (l_day (ft_nr r)).toInt64) hx hb dL_digest_7 rfl ?_
  refine lv_lmul hx hb dL_digest_8 ?_
  refine lv_ldc2 (v := 11) hx hb hown (hts (.constantLong RL 159 (11)) (by decide +kernel)) dL_digest_9 ?_
  refine lv_aload_n hx hb dL_digest_12 rfl (lv_at hl 0 rfl) ?_
  refine vp_callSi (va_Run.run (va_runV (As := []) (rest := [.long 11, .long (7 * ((l_day (ft_nr r)).toInt64))]) ⟨hx, hb, hml, hown, hts⟩ (cl_minute l D Z k sz a σ) (cwV 0 hts gL_digest_X7_minute rfl rfl rfl (by decide +kernel) ⟨Nat.le_of_ble_eq_true rfl, Nat.le_of_ble_eq_true rfl⟩) (ft_preL hE hz hS hP) rfl rfl hl.1 rfl (lv_room (Nat.le_of_ble_eq_true rfl)) dL_digest_13 ⟨Nat.le_of_ble_eq_true rfl, Nat.le_of_ble_eq_true rfl⟩)) (fun z hz9 => ?_)
  replace hz9 : z = l_minute (ft_nr r) := hz9.trans (ft_ev (f := fun q9 => l_minute (ft_nr q9)) hq rfl)
  subst hz9
  refine lv_i2l (v := (l_minute (ft_nr r)).toInt64) hx hb dL_digest_16 rfl ?_
  refine lv_lmul hx hb dL_digest_17 ?_
  refine lv_ladd hx hb dL_digest_18 ?_
  refine lv_ldc2 (v := 13) hx hb hown (hts (.constantLong RL 164 (13)) (by decide +kernel)) dL_digest_19 ?_
  refine lv_aload_n hx hb dL_digest_22 rfl (lv_at hl 0 rfl) ?_
  refine vp_callSi (va_Run.run (va_runV (As := []) (rest := [.long 13, .long ((7 * ((l_day (ft_nr r)).toInt64)) + (11 * ((l_minute (ft_nr r)).toInt64)))]) ⟨hx, hb, hml, hown, hts⟩ (cl_weather l D Z k sz a σ) (cwV 0 hts gL_digest_X7_weather rfl rfl rfl (by decide +kernel) ⟨Nat.le_of_ble_eq_true rfl, Nat.le_of_ble_eq_true rfl⟩) (ft_preL hE hz hS hP) rfl rfl hl.1 rfl (lv_room (Nat.le_of_ble_eq_true rfl)) dL_digest_23 ⟨Nat.le_of_ble_eq_true rfl, Nat.le_of_ble_eq_true rfl⟩)) (fun z hz9 => ?_)
  replace hz9 : z = l_weather (ft_nr r) := hz9.trans (ft_ev (f := fun q9 => l_weather (ft_nr q9)) hq rfl)
  subst hz9
  refine lv_i2l (v := (l_weather (ft_nr r)).toInt64) hx hb dL_digest_26 rfl ?_
  refine lv_lmul hx hb dL_digest_27 ?_
  refine lv_ladd hx hb dL_digest_28 ?_
  refine lv_ldc2 (v := 17) hx hb hown (hts (.constantLong RL 169 (17)) (by decide +kernel)) dL_digest_29 ?_
  refine lv_aload_n hx hb dL_digest_32 rfl (lv_at hl 0 rfl) ?_
  refine vp_callSi (va_Run.run (va_runV (As := []) (rest := [.long 17, .long (((7 * ((l_day (ft_nr r)).toInt64)) + (11 * ((l_minute (ft_nr r)).toInt64))) + (13 * ((l_weather (ft_nr r)).toInt64)))]) ⟨hx, hb, hml, hown, hts⟩ (cl_arrivedTotal l D Z k sz a σ) (cwV 0 hts gL_digest_X7_arrivedTotal rfl rfl rfl (by decide +kernel) ⟨Nat.le_of_ble_eq_true rfl, Nat.le_of_ble_eq_true rfl⟩) (ft_preL hE hz hS hP) rfl rfl hl.1 rfl (lv_room (Nat.le_of_ble_eq_true rfl)) dL_digest_33 ⟨Nat.le_of_ble_eq_true rfl, Nat.le_of_ble_eq_true rfl⟩)) (fun z hz9 => ?_)
  replace hz9 : z = l_arrivedTotal (ft_nr r) := hz9.trans (ft_ev (f := fun q9 => l_arrivedTotal (ft_nr q9)) hq rfl)
  subst hz9
  refine lv_i2l (v := (l_arrivedTotal (ft_nr r)).toInt64) hx hb dL_digest_36 rfl ?_
  refine lv_lmul hx hb dL_digest_37 ?_
  refine lv_ladd hx hb dL_digest_38 ?_
  refine lv_ldc2 (v := 19) hx hb hown (hts (.constantLong RL 174 (19)) (by decide +kernel)) dL_digest_39 ?_
  refine lv_aload_n hx hb dL_digest_42 rfl (lv_at hl 0 rfl) ?_
  refine vp_callSi (va_Run.run (va_runV (As := []) (rest := [.long 19, .long ((((7 * ((l_day (ft_nr r)).toInt64)) + (11 * ((l_minute (ft_nr r)).toInt64))) + (13 * ((l_weather (ft_nr r)).toInt64))) + (17 * ((l_arrivedTotal (ft_nr r)).toInt64)))]) ⟨hx, hb, hml, hown, hts⟩ (cl_servedTotal l D Z k sz a σ) (cwV 0 hts gL_digest_X7_servedTotal rfl rfl rfl (by decide +kernel) ⟨Nat.le_of_ble_eq_true rfl, Nat.le_of_ble_eq_true rfl⟩) (ft_preL hE hz hS hP) rfl rfl hl.1 rfl (lv_room (Nat.le_of_ble_eq_true rfl)) dL_digest_43 ⟨Nat.le_of_ble_eq_true rfl, Nat.le_of_ble_eq_true rfl⟩)) (fun z hz9 => ?_)
  replace hz9 : z = l_servedTotal (ft_nr r) := hz9.trans (ft_ev (f := fun q9 => l_servedTotal (ft_nr q9)) hq rfl)
  subst hz9
  refine lv_i2l (v := (l_servedTotal (ft_nr r)).toInt64) hx hb dL_digest_46 rfl ?_
  refine lv_lmul hx hb dL_digest_47 ?_
  refine lv_ladd hx hb dL_digest_48 ?_
  refine lv_ldc2 (v := 23) hx hb hown (hts (.constantLong RL 179 (23)) (by decide +kernel)) dL_digest_49 ?_
  refine lv_aload_n hx hb dL_digest_52 rfl (lv_at hl 0 rfl) ?_
  refine vp_callSi (va_Run.run (va_runV (As := []) (rest := [.long 23, .long (((((7 * ((l_day (ft_nr r)).toInt64)) + (11 * ((l_minute (ft_nr r)).toInt64))) + (13 * ((l_weather (ft_nr r)).toInt64))) + (17 * ((l_arrivedTotal (ft_nr r)).toInt64))) + (19 * ((l_servedTotal (ft_nr r)).toInt64)))]) ⟨hx, hb, hml, hown, hts⟩ (cl_disappointedTotal l D Z k sz a σ) (cwV 0 hts gL_digest_X7_disappointedTotal rfl rfl rfl (by decide +kernel) ⟨Nat.le_of_ble_eq_true rfl, Nat.le_of_ble_eq_true rfl⟩) (ft_preL hE hz hS hP) rfl rfl hl.1 rfl (lv_room (Nat.le_of_ble_eq_true rfl)) dL_digest_53 ⟨Nat.le_of_ble_eq_true rfl, Nat.le_of_ble_eq_true rfl⟩)) (fun z hz9 => ?_)
  replace hz9 : z = l_disappointedTotal (ft_nr r) := hz9.trans (ft_ev (f := fun q9 => l_disappointedTotal (ft_nr q9)) hq rfl)
  subst hz9
  refine lv_i2l (v := (l_disappointedTotal (ft_nr r)).toInt64) hx hb dL_digest_56 rfl ?_
  refine lv_lmul hx hb dL_digest_57 ?_
  refine lv_ladd hx hb dL_digest_58 ?_
  refine lv_ldc2 (v := 29) hx hb hown (hts (.constantLong RL 184 (29)) (by decide +kernel)) dL_digest_59 ?_
  refine lv_aload_n hx hb dL_digest_62 rfl (lv_at hl 0 rfl) ?_
  refine vp_callSi (va_Run.run (va_runV (As := []) (rest := [.long 29, .long ((((((7 * ((l_day (ft_nr r)).toInt64)) + (11 * ((l_minute (ft_nr r)).toInt64))) + (13 * ((l_weather (ft_nr r)).toInt64))) + (17 * ((l_arrivedTotal (ft_nr r)).toInt64))) + (19 * ((l_servedTotal (ft_nr r)).toInt64))) + (23 * ((l_disappointedTotal (ft_nr r)).toInt64)))]) ⟨hx, hb, hml, hown, hts⟩ (cl_lostTotal l D Z k sz a σ) (cwV 0 hts gL_digest_X7_lostTotal rfl rfl rfl (by decide +kernel) ⟨Nat.le_of_ble_eq_true rfl, Nat.le_of_ble_eq_true rfl⟩) (ft_preL hE hz hS hP) rfl rfl hl.1 rfl (lv_room (Nat.le_of_ble_eq_true rfl)) dL_digest_63 ⟨Nat.le_of_ble_eq_true rfl, Nat.le_of_ble_eq_true rfl⟩)) (fun z hz9 => ?_)
  replace hz9 : z = l_lostTotal (ft_nr r) := hz9.trans (ft_ev (f := fun q9 => l_lostTotal (ft_nr q9)) hq rfl)
  subst hz9
  refine lv_i2l (v := (l_lostTotal (ft_nr r)).toInt64) hx hb dL_digest_66 rfl ?_
  refine lv_lmul hx hb dL_digest_67 ?_
  refine lv_ladd hx hb dL_digest_68 ?_
  refine lv_aload_n hx hb dL_digest_69 rfl (lv_at hl 0 rfl) ?_
  refine vp_callSi (va_Run.run (va_runV (As := []) (rest := [.long (((((((7 * ((l_day (ft_nr r)).toInt64)) + (11 * ((l_minute (ft_nr r)).toInt64))) + (13 * ((l_weather (ft_nr r)).toInt64))) + (17 * ((l_arrivedTotal (ft_nr r)).toInt64))) + (19 * ((l_servedTotal (ft_nr r)).toInt64))) + (23 * ((l_disappointedTotal (ft_nr r)).toInt64))) + (29 * ((l_lostTotal (ft_nr r)).toInt64)))]) ⟨hx, hb, hml, hown, hts⟩ (cl_truckCount l D Z k sz a σ) (cwV 0 hts gL_digest_X7_truckCount rfl rfl rfl (by decide +kernel) ⟨Nat.le_of_ble_eq_true rfl, Nat.le_of_ble_eq_true rfl⟩) (ft_preL hE hz hS hP) rfl rfl hl.1 rfl (lv_room (Nat.le_of_ble_eq_true rfl)) dL_digest_70 ⟨Nat.le_of_ble_eq_true rfl, Nat.le_of_ble_eq_true rfl⟩)) (fun z hz9 => ?_)
  replace hz9 : z = l_truckCount (ft_nr r) := hz9.trans (ft_ev (f := fun q9 => l_truckCount (ft_nr q9)) hq rfl)
  subst hz9
  refine lv_i2l (v := (l_truckCount (ft_nr r)).toInt64) hx hb dL_digest_73 rfl ?_
  refine lv_ladd hx hb dL_digest_74 ?_
  refine lv_lstore_n (lv' := [(1, .long ((((((((7 * ((l_day (ft_nr r)).toInt64)) + (11 * ((l_minute (ft_nr r)).toInt64))) + (13 * ((l_weather (ft_nr r)).toInt64))) + (17 * ((l_arrivedTotal (ft_nr r)).toInt64))) + (19 * ((l_servedTotal (ft_nr r)).toInt64))) + (23 * ((l_disappointedTotal (ft_nr r)).toInt64))) + (29 * ((l_lostTotal (ft_nr r)).toInt64))) + ((l_truckCount (ft_nr r)).toInt64))), (0, .ref (a))]) hx hb dL_digest_75 rfl hl (by decide) rfl (fun ls hl => ?_)
  refine lv_iconst (v := 0) hx hb dL_digest_76 (by decide) ?_
  refine lv_istore_n (lv' := [(3, .int (0)), (1, .long ((((((((7 * ((l_day (ft_nr r)).toInt64)) + (11 * ((l_minute (ft_nr r)).toInt64))) + (13 * ((l_weather (ft_nr r)).toInt64))) + (17 * ((l_arrivedTotal (ft_nr r)).toInt64))) + (19 * ((l_servedTotal (ft_nr r)).toInt64))) + (23 * ((l_disappointedTotal (ft_nr r)).toInt64))) + (29 * ((l_lostTotal (ft_nr r)).toInt64))) + ((l_truckCount (ft_nr r)).toInt64))), (0, .ref (a))]) hx hb dL_digest_77 rfl hl (by decide) rfl (fun ls hl => ?_)
  have loop_78 : ∀ (K : Int64 → Int32 → (Int64)) (hKx : ∀ (y1_78 : Int64) (y3_78 : Int32) (i_78 : Nat) (hi_78 : y3_78 = nI i_78) (hm_78 : i_78 ≤ tn 4) (H : Heap) (locs : List Loc) (hP : ft_LW D k Z sz a σ H) (hS : va_S (ft_AL sz) s.heap H locs) (ls : Array Slot) (hl : lv_has ls 5 [(0, .ref (a)), (1, .long y1_78), (3, .int (y3_78))]) (hsp : K y1_78 y3_78 = s_L_digest r), W p l e (headSpec wsL_digest ({ frames := 9, cells := 431, slots := 2586, locals := 176 })).room s m ([.ref a] : List Value).toArray below meth c H locs (0 + 8) (0 + 48) (MQ below (ft_QWl D k Z sz a σ (s_L_digest r)) ([.ref a] : List Value).toArray s 431 2586 (ft_AL sz)) (F0 m 113 ls [])) (n_78 : Nat), ∀ (y1_78 : Int64) (y3_78 : Int32) (i_78 : Nat) (hi_78 : y3_78 = nI i_78) (hm_78 : i_78 ≤ tn 4) (hn_78 : tn 4 < n_78 + i_78) (H : Heap) (locs : List Loc) (hP : ft_LW D k Z sz a σ H) (hS : va_S (ft_AL sz) s.heap H locs) (ls : Array Slot) (hl : lv_has ls 5 [(0, .ref (a)), (1, .long y1_78), (3, .int (y3_78))]) (hsp : s_L_digest_L78 r K n_78 y1_78 y3_78 = s_L_digest r), W p l e (headSpec wsL_digest ({ frames := 9, cells := 431, slots := 2586, locals := 176 })).room s m ([.ref a] : List Value).toArray below meth c H locs (0 + 2 * i_78) (0 + 12 * i_78) (MQ below (ft_QWl D k Z sz a σ (s_L_digest r)) ([.ref a] : List Value).toArray s 431 2586 (ft_AL sz)) (F0 m 78 ls []) := by
    intro K hKx n_78
    induction n_78 with
    | zero => intro y1_78 y3_78 i_78 hi_78 hm_78 hn_78; exact absurd hn_78 (by omega)
    | succ n ih_78 =>
      intro y1_78 y3_78 i_78 hi_78 hm_78 hn_78 H locs hP hS ls hl hsp
      rw [s_L_digest_L78] at hsp
      have hm5_78 : i_78 ≤ 4 := hm_78
      refine lv_iload_n hx hb dL_digest_78 rfl (lv_at hl 2 rfl) ?_
      refine lv_iconst (v := 4) hx hb dL_digest_79 (by decide) ?_
      refine lv_icmp_ge (tgt := 113) hx hb dL_digest_80 (by decide) (fun c_80 => ?_) (fun c_80 => ?_)
      · replace hsp := (if_pos c_80).symm.trans hsp
        refine W.widen (k := 0 + 8) (n := 0 + 48) (by omega) (by omega) ?_
        exact hKx y1_78 y3_78 i_78 hi_78 hm_78 _ _ hP hS ls (lv_sub hl [0, 1, 2] rfl) hsp
      · replace hsp := (if_neg c_80).symm.trans hsp
        have hlt_78 := ft_step hi_78 hm_78 c_80
        have hl5_78 : i_78 + 1 ≤ 4 := hlt_78
        refine lv_ldc2 (v := 31) hx hb hown (hts (.constantLong RL 192 (31)) (by decide +kernel)) dL_digest_83 ?_
        refine lv_ldc2 (v := 31) hx hb hown (hts (.constantLong RL 192 (31)) (by decide +kernel)) dL_digest_86 ?_
        refine lv_lload_n hx hb dL_digest_89 rfl (lv_at hl 1 rfl) ?_
        refine lv_lmul hx hb dL_digest_90 ?_
        refine lv_aload_n hx hb dL_digest_91 rfl (lv_at hl 0 rfl) ?_
        refine lv_iload_n hx hb dL_digest_92 rfl (lv_at hl 2 rfl) ?_
        refine va_calli (va_runV (As := [.int (y3_78)]) (rest := [.long (31 * y1_78), .long 31]) ⟨hx, hb, hml, hown, hts⟩ (ft_noX (z := p_price (ft_nr r) y3_78) (cl_price l hl0 D Z k sz a σ y3_78 ) (ft_ev (f := fun q9 => l_price (ft_nr q9) y3_78) hq (ok_price (ft_nd hi_78 hl5_78)))) (cwV 1 hts gL_digest_X7_price rfl rfl rfl (by decide +kernel) ⟨Nat.le_of_ble_eq_true rfl, Nat.le_of_ble_eq_true rfl⟩) (ft_preL hE hz hS hP) rfl rfl hl.1 rfl (lv_room (Nat.le_of_ble_eq_true rfl)) dL_digest_93 ⟨(show 0 + 2 * i_78 + 1 ≤ 431 by omega), (show 0 + 12 * i_78 + 6 ≤ 2586 by omega)⟩) hS (fun _ _ h => h) (fun _ h => h) (fun z u t H1 locs1 ht hvm hw hB hz1 hk1 hS1 => ?_)
        obtain rfl : p_price (ft_nr r) y3_78 = z := Eq.symm hw
        rw [ht] at hB
        have hP := hB
        have hS := hS1
        clear hS1
        generalize H1 = H at hP hS ⊢
        refine W.widen (k := 1 + 2 * i_78) (n := 6 + 12 * i_78) (by omega) (by omega) ?_
        refine lv_i2l (v := (p_price (ft_nr r) y3_78).toInt64) hx hb dL_digest_96 rfl ?_
        refine lv_ladd hx hb dL_digest_97 ?_
        refine lv_lmul hx hb dL_digest_98 ?_
        refine lv_aload_n hx hb dL_digest_99 rfl (lv_at hl 0 rfl) ?_
        refine lv_iload_n hx hb dL_digest_100 rfl (lv_at hl 2 rfl) ?_
        refine va_calli (va_runV (As := [.int (y3_78)]) (rest := [.long (31 * ((31 * y1_78) + ((p_price (ft_nr r) y3_78).toInt64)))]) ⟨hx, hb, hml, hown, hts⟩ (ft_noX (z := p_soldPortions (ft_nr r) y3_78) (cl_soldPortions l hl0 D Z k sz a σ y3_78 ) (ft_ev (f := fun q9 => l_soldPortions (ft_nr q9) y3_78) hq (ok_soldPortions (ft_nd hi_78 hl5_78)))) (cwV 1 hts gL_digest_X7_soldPortions rfl rfl rfl (by decide +kernel) ⟨Nat.le_of_ble_eq_true rfl, Nat.le_of_ble_eq_true rfl⟩) (ft_preL hE hz hS hP) rfl rfl hl.1 rfl (lv_room (Nat.le_of_ble_eq_true rfl)) dL_digest_101 ⟨(show 1 + 2 * i_78 + 1 ≤ 431 by omega), (show 6 + 12 * i_78 + 6 ≤ 2586 by omega)⟩) hS (fun _ _ h => h) (fun _ h => h) (fun z u t H1 locs1 ht hvm hw hB hz1 hk1 hS1 => ?_)
        obtain rfl : p_soldPortions (ft_nr r) y3_78 = z := Eq.symm hw
        rw [ht] at hB
        have hP := hB
        have hS := hS1
        clear hS1
        generalize H1 = H at hP hS ⊢
        refine W.widen (k := 2 + 2 * i_78) (n := 12 + 12 * i_78) (by omega) (by omega) ?_
        refine lv_i2l (v := (p_soldPortions (ft_nr r) y3_78).toInt64) hx hb dL_digest_104 rfl ?_
        refine lv_ladd hx hb dL_digest_105 ?_
        refine lv_lstore_n (lv' := [(1, .long ((31 * ((31 * y1_78) + ((p_price (ft_nr r) y3_78).toInt64))) + ((p_soldPortions (ft_nr r) y3_78).toInt64))), (0, .ref (a)), (3, .int (y3_78))]) hx hb dL_digest_106 rfl hl (by decide) rfl (fun ls hl => ?_)
        refine lv_iinc (v := y3_78 + 1) (lv' := [(3, .int (y3_78 + 1)), (1, .long ((31 * ((31 * y1_78) + ((p_price (ft_nr r) y3_78).toInt64))) + ((p_soldPortions (ft_nr r) y3_78).toInt64))), (0, .ref (a))]) hx hb dL_digest_107 hl (k := 2) rfl rfl (by decide) rfl (fun ls hl => ?_)
        refine lv_goto (tgt := 78) hx hb dL_digest_110 (by decide) ?_
        refine W.widen (k := 0 + 2 * (i_78 + 1)) (n := 0 + 12 * (i_78 + 1)) (by omega) (by omega) ?_
        exact ih_78 ((31 * ((31 * y1_78) + ((p_price (ft_nr r) y3_78).toInt64))) + ((p_soldPortions (ft_nr r) y3_78).toInt64)) (y3_78 + 1) (i_78 + 1) (by rw [hi_78, nI_1]) hlt_78 (by omega) _ _ hP hS ls (lv_sub hl [2, 1, 0] rfl) hsp
  refine W.widen (k := 0 + 2 * 0) (n := 0 + 12 * 0) (by omega) (by omega) ?_
  refine loop_78 _ (fun y1_78 y3_78 i_78 hi_78 hm_78 H locs hP hS ls hl hsp => ?_) (tn 4 + 1) ((((((((7 * ((l_day (ft_nr r)).toInt64)) + (11 * ((l_minute (ft_nr r)).toInt64))) + (13 * ((l_weather (ft_nr r)).toInt64))) + (17 * ((l_arrivedTotal (ft_nr r)).toInt64))) + (19 * ((l_servedTotal (ft_nr r)).toInt64))) + (23 * ((l_disappointedTotal (ft_nr r)).toInt64))) + (29 * ((l_lostTotal (ft_nr r)).toInt64))) + ((l_truckCount (ft_nr r)).toInt64)) 0 0 rfl (Nat.zero_le _) (by omega) _ _ hP hS ls (lv_sub hl [2, 1, 0] rfl) hsp
  refine W.widen (k := 8) (n := 48) (by omega) (by omega) ?_
  refine lv_iconst (v := 0) hx hb dL_digest_113 (by decide) ?_
  refine lv_istore_n (lv' := [(3, .int (0)), (0, .ref (a)), (1, .long y1_78)]) hx hb dL_digest_114 rfl hl (by decide) rfl (fun ls hl => ?_)
  have loop_115 : ∀ (K : Int64 → Int32 → (Int64)) (hKx : ∀ (y1_115 : Int64) (y3_115 : Int32) (i_115 : Nat) (hi_115 : y3_115 = nI i_115) (hm_115 : i_115 ≤ tn 7) (H : Heap) (locs : List Loc) (hP : ft_LW D k Z sz a σ H) (hS : va_S (ft_AL sz) s.heap H locs) (ls : Array Slot) (hl : lv_has ls 5 [(0, .ref (a)), (1, .long y1_115), (3, .int (y3_115))]) (hsp : K y1_115 y3_115 = s_L_digest r), W p l e (headSpec wsL_digest ({ frames := 9, cells := 431, slots := 2586, locals := 176 })).room s m ([.ref a] : List Value).toArray below meth c H locs (8 + 105) (48 + 630) (MQ below (ft_QWl D k Z sz a σ (s_L_digest r)) ([.ref a] : List Value).toArray s 431 2586 (ft_AL sz)) (F0 m 157 ls [])) (n_115 : Nat), ∀ (y1_115 : Int64) (y3_115 : Int32) (i_115 : Nat) (hi_115 : y3_115 = nI i_115) (hm_115 : i_115 ≤ tn 7) (hn_115 : tn 7 < n_115 + i_115) (H : Heap) (locs : List Loc) (hP : ft_LW D k Z sz a σ H) (hS : va_S (ft_AL sz) s.heap H locs) (ls : Array Slot) (hl : lv_has ls 5 [(0, .ref (a)), (1, .long y1_115), (3, .int (y3_115))]) (hsp : s_L_digest_L115 r K n_115 y1_115 y3_115 = s_L_digest r), W p l e (headSpec wsL_digest ({ frames := 9, cells := 431, slots := 2586, locals := 176 })).room s m ([.ref a] : List Value).toArray below meth c H locs (8 + 15 * i_115) (48 + 90 * i_115) (MQ below (ft_QWl D k Z sz a σ (s_L_digest r)) ([.ref a] : List Value).toArray s 431 2586 (ft_AL sz)) (F0 m 115 ls []) := by
    intro K hKx n_115
    induction n_115 with
    | zero => intro y1_115 y3_115 i_115 hi_115 hm_115 hn_115; exact absurd hn_115 (by omega)
    | succ n ih_115 =>
      intro y1_115 y3_115 i_115 hi_115 hm_115 hn_115 H locs hP hS ls hl hsp
      rw [s_L_digest_L115] at hsp
      have hm5_115 : i_115 ≤ 7 := hm_115
      refine lv_iload_n hx hb dL_digest_115 rfl (lv_at hl 2 rfl) ?_
      refine lv_bipush (v := 7) hx hb dL_digest_116 (by decide) ?_
      refine lv_icmp_ge (tgt := 157) hx hb dL_digest_118 (by decide) (fun c_118 => ?_) (fun c_118 => ?_)
      · replace hsp := (if_pos c_118).symm.trans hsp
        refine W.widen (k := 8 + 105) (n := 48 + 630) (by omega) (by omega) ?_
        exact hKx y1_115 y3_115 i_115 hi_115 hm_115 _ _ hP hS ls (lv_sub hl [0, 1, 2] rfl) hsp
      · replace hsp := (if_neg c_118).symm.trans hsp
        have hlt_115 := ft_step hi_115 hm_115 c_118
        have hl5_115 : i_115 + 1 ≤ 7 := hlt_115
        refine lv_iconst (v := 0) hx hb dL_digest_121 (by decide) ?_
        refine lv_istore (lv' := [(4, .int (0)), (0, .ref (a)), (1, .long y1_115), (3, .int (y3_115))]) hx hb dL_digest_122 hl (by decide) rfl (fun ls hl => ?_)
        have loop_124 : ∀ (K : Int64 → Int32 → (Int64)) (hKx : ∀ (y1_124 : Int64) (y4_124 : Int32) (i_124 : Nat) (hi_124 : y4_124 = nI i_124) (hm_124 : i_124 ≤ tn 5) (H : Heap) (locs : List Loc) (hP : ft_LW D k Z sz a σ H) (hS : va_S (ft_AL sz) s.heap H locs) (ls : Array Slot) (hl : lv_has ls 5 [(0, .ref (a)), (1, .long y1_124), (3, .int (y3_115)), (4, .int (y4_124))]) (hsp : K y1_124 y4_124 = s_L_digest r), W p l e (headSpec wsL_digest ({ frames := 9, cells := 431, slots := 2586, locals := 176 })).room s m ([.ref a] : List Value).toArray below meth c H locs (8 + 15 * i_115 + 15) (48 + 90 * i_115 + 90) (MQ below (ft_QWl D k Z sz a σ (s_L_digest r)) ([.ref a] : List Value).toArray s 431 2586 (ft_AL sz)) (F0 m 151 ls [])) (n_124 : Nat), ∀ (y1_124 : Int64) (y4_124 : Int32) (i_124 : Nat) (hi_124 : y4_124 = nI i_124) (hm_124 : i_124 ≤ tn 5) (hn_124 : tn 5 < n_124 + i_124) (H : Heap) (locs : List Loc) (hP : ft_LW D k Z sz a σ H) (hS : va_S (ft_AL sz) s.heap H locs) (ls : Array Slot) (hl : lv_has ls 5 [(0, .ref (a)), (1, .long y1_124), (3, .int (y3_115)), (4, .int (y4_124))]) (hsp : s_L_digest_L124 r y1_115 y3_115 K n_124 y1_124 y4_124 = s_L_digest r), W p l e (headSpec wsL_digest ({ frames := 9, cells := 431, slots := 2586, locals := 176 })).room s m ([.ref a] : List Value).toArray below meth c H locs (8 + 15 * i_115 + 3 * i_124) (48 + 90 * i_115 + 18 * i_124) (MQ below (ft_QWl D k Z sz a σ (s_L_digest r)) ([.ref a] : List Value).toArray s 431 2586 (ft_AL sz)) (F0 m 124 ls []) := by
          intro K hKx n_124
          induction n_124 with
          | zero => intro y1_124 y4_124 i_124 hi_124 hm_124 hn_124; exact absurd hn_124 (by omega)
          | succ n ih_124 =>
            intro y1_124 y4_124 i_124 hi_124 hm_124 hn_124 H locs hP hS ls hl hsp
            rw [s_L_digest_L124] at hsp
            have hm5_124 : i_124 ≤ 5 := hm_124
            refine lv_iload hx hb dL_digest_124 (lv_at hl 3 rfl) ?_
            refine lv_iconst (v := 5) hx hb dL_digest_126 (by decide) ?_
            refine lv_icmp_ge (tgt := 151) hx hb dL_digest_127 (by decide) (fun c_127 => ?_) (fun c_127 => ?_)
            · replace hsp := (if_pos c_127).symm.trans hsp
              refine W.widen (k := 8 + 15 * i_115 + 15) (n := 48 + 90 * i_115 + 90) (by omega) (by omega) ?_
              exact hKx y1_124 y4_124 i_124 hi_124 hm_124 _ _ hP hS ls (lv_sub hl [0, 1, 2, 3] rfl) hsp
            · replace hsp := (if_neg c_127).symm.trans hsp
              have hlt_124 := ft_step hi_124 hm_124 c_127
              have hl5_124 : i_124 + 1 ≤ 5 := hlt_124
              refine lv_ldc2 (v := 31) hx hb hown (hts (.constantLong RL 192 (31)) (by decide +kernel)) dL_digest_130 ?_
              refine lv_lload_n hx hb dL_digest_133 rfl (lv_at hl 1 rfl) ?_
              refine lv_lmul hx hb dL_digest_134 ?_
              refine lv_aload_n hx hb dL_digest_135 rfl (lv_at hl 0 rfl) ?_
              refine lv_iload hx hb dL_digest_136 (lv_at hl 3 rfl) ?_
              refine lv_iload_n hx hb dL_digest_138 rfl (lv_at hl 2 rfl) ?_
              refine va_calli (vx_runSW (As := [.ref (a), .int (y4_124), .int (y3_115)]) (rest := [.long (31 * y1_124)]) ⟨hx, hb, hml, hown, hts⟩ (d_L_truckAt l hl0 D Z k sz a σ y4_124 y3_115 (ex_truckAt)) (vx_cwSW 3 hts gL_digest_L_truckAt rfl rfl rfl (by decide +kernel) ⟨Nat.le_of_ble_eq_true rfl, Nat.le_of_ble_eq_true rfl⟩) (ft_preM hEL hz hS hP) rfl rfl hl.1 rfl (lv_room (Nat.le_of_ble_eq_true rfl)) dL_digest_139 ⟨(show 8 + 15 * i_115 + 3 * i_124 + 3 ≤ 431 by omega), (show 48 + 90 * i_115 + 18 * i_124 + 18 ≤ 2586 by omega)⟩) hS (fun _ _ h => h) (fun _ h => h) (fun z u t H1 locs1 ht hvm hw hB hz1 hk1 hS1 => ?_)
              obtain rfl : z = w_truckAt (ft_nr r) y4_124 y3_115 := hw.trans (ft_ev (f := fun q9 => w_truckAt (ft_nr q9) y4_124 y3_115) hq rfl)
              rw [ht] at hB
              have hP := hB
              have hS := hS1
              clear hS1
              generalize H1 = H at hP hS ⊢
              refine W.widen (k := 11 + 15 * i_115 + 3 * i_124) (n := 66 + 90 * i_115 + 18 * i_124) (by omega) (by omega) ?_
              refine lv_i2l (v := (w_truckAt (ft_nr r) y4_124 y3_115).toInt64) hx hb dL_digest_142 rfl ?_
              refine lv_ladd hx hb dL_digest_143 ?_
              refine lv_lstore_n (lv' := [(1, .long ((31 * y1_124) + ((w_truckAt (ft_nr r) y4_124 y3_115).toInt64))), (0, .ref (a)), (3, .int (y3_115)), (4, .int (y4_124))]) hx hb dL_digest_144 rfl hl (by decide) rfl (fun ls hl => ?_)
              refine lv_iinc (v := y4_124 + 1) (lv' := [(4, .int (y4_124 + 1)), (1, .long ((31 * y1_124) + ((w_truckAt (ft_nr r) y4_124 y3_115).toInt64))), (0, .ref (a)), (3, .int (y3_115))]) hx hb dL_digest_145 hl (k := 3) rfl rfl (by decide) rfl (fun ls hl => ?_)
              refine lv_goto (tgt := 124) hx hb dL_digest_148 (by decide) ?_
              refine W.widen (k := 8 + 15 * i_115 + 3 * (i_124 + 1)) (n := 48 + 90 * i_115 + 18 * (i_124 + 1)) (by omega) (by omega) ?_
              exact ih_124 ((31 * y1_124) + ((w_truckAt (ft_nr r) y4_124 y3_115).toInt64)) (y4_124 + 1) (i_124 + 1) (by rw [hi_124, nI_1]) hlt_124 (by omega) _ _ hP hS ls (lv_sub hl [2, 1, 3, 0] rfl) hsp
        refine W.widen (k := 8 + 15 * i_115 + 3 * 0) (n := 48 + 90 * i_115 + 18 * 0) (by omega) (by omega) ?_
        refine loop_124 _ (fun y1_124 y4_124 i_124 hi_124 hm_124 H locs hP hS ls hl hsp => ?_) (tn 5 + 1) y1_115 0 0 rfl (Nat.zero_le _) (by omega) _ _ hP hS ls (lv_sub hl [1, 2, 3, 0] rfl) hsp
        refine W.widen (k := 23 + 15 * i_115) (n := 138 + 90 * i_115) (by omega) (by omega) ?_
        refine lv_iinc (v := y3_115 + 1) (lv' := [(3, .int (y3_115 + 1)), (0, .ref (a)), (1, .long y1_124), (4, .int (y4_124))]) hx hb dL_digest_151 hl (k := 2) rfl rfl (by decide) rfl (fun ls hl => ?_)
        refine lv_goto (tgt := 115) hx hb dL_digest_154 (by decide) ?_
        refine W.widen (k := 8 + 15 * (i_115 + 1)) (n := 48 + 90 * (i_115 + 1)) (by omega) (by omega) ?_
        exact ih_115 y1_124 (y3_115 + 1) (i_115 + 1) (by rw [hi_115, nI_1]) hlt_115 (by omega) _ _ hP hS ls (lv_sub hl [1, 2, 0] rfl) hsp
  refine W.widen (k := 8 + 15 * 0) (n := 48 + 90 * 0) (by omega) (by omega) ?_
  refine loop_115 _ (fun y1_115 y3_115 i_115 hi_115 hm_115 H locs hP hS ls hl hsp => ?_) (tn 7 + 1) y1_78 0 0 rfl (Nat.zero_le _) (by omega) _ _ hP hS ls (lv_sub hl [1, 2, 0] rfl) hsp
  refine W.widen (k := 113) (n := 678) (by omega) (by omega) ?_
  refine lv_iconst (v := 0) hx hb dL_digest_157 (by decide) ?_
  refine lv_istore_n (lv' := [(3, .int (0)), (0, .ref (a)), (1, .long y1_115)]) hx hb dL_digest_158 rfl hl (by decide) rfl (fun ls hl => ?_)
  have hbn_159 : tn (l_truckCount (ft_nr r)) ≤ 6 := hN
  have loop_159 : ∀ (K : Int64 → Int32 → (Int64)) (hKx : ∀ (y1_159 : Int64) (y3_159 : Int32) (i_159 : Nat) (hi_159 : y3_159 = nI i_159) (hm_159 : i_159 ≤ tn (l_truckCount (ft_nr r))) (H : Heap) (locs : List Loc) (hP : ft_LW D k Z sz a σ H) (hS : va_S (ft_AL sz) s.heap H locs) (ls : Array Slot) (hl : lv_has ls 5 [(0, .ref (a)), (1, .long y1_159), (3, .int (y3_159))]) (hsp : K y1_159 y3_159 = s_L_digest r), W p l e (headSpec wsL_digest ({ frames := 9, cells := 431, slots := 2586, locals := 176 })).room s m ([.ref a] : List Value).toArray below meth c H locs (113 + 318) (678 + 1908) (MQ below (ft_QWl D k Z sz a σ (s_L_digest r)) ([.ref a] : List Value).toArray s 431 2586 (ft_AL sz)) (F0 m 311 ls [])) (n_159 : Nat), ∀ (y1_159 : Int64) (y3_159 : Int32) (i_159 : Nat) (hi_159 : y3_159 = nI i_159) (hm_159 : i_159 ≤ tn (l_truckCount (ft_nr r))) (hn_159 : tn (l_truckCount (ft_nr r)) < n_159 + i_159) (H : Heap) (locs : List Loc) (hP : ft_LW D k Z sz a σ H) (hS : va_S (ft_AL sz) s.heap H locs) (ls : Array Slot) (hl : lv_has ls 5 [(0, .ref (a)), (1, .long y1_159), (3, .int (y3_159))]) (hsp : s_L_digest_L159 r K n_159 y1_159 y3_159 = s_L_digest r), W p l e (headSpec wsL_digest ({ frames := 9, cells := 431, slots := 2586, locals := 176 })).room s m ([.ref a] : List Value).toArray below meth c H locs (113 + 53 * i_159) (678 + 318 * i_159) (MQ below (ft_QWl D k Z sz a σ (s_L_digest r)) ([.ref a] : List Value).toArray s 431 2586 (ft_AL sz)) (F0 m 159 ls []) := by
    intro K hKx n_159
    induction n_159 with
    | zero => intro y1_159 y3_159 i_159 hi_159 hm_159 hn_159; exact absurd hn_159 (by omega)
    | succ n ih_159 =>
      intro y1_159 y3_159 i_159 hi_159 hm_159 hn_159 H locs hP hS ls hl hsp
      rw [s_L_digest_L159] at hsp
      have hm5_159 : i_159 ≤ 6 := Nat.le_trans hm_159 hbn_159
      refine lv_iload_n hx hb dL_digest_159 rfl (lv_at hl 2 rfl) ?_
      refine lv_aload_n hx hb dL_digest_160 rfl (lv_at hl 0 rfl) ?_
      refine vp_callSi (va_Run.run (va_runV (As := []) (rest := [.int (y3_159)]) ⟨hx, hb, hml, hown, hts⟩ (cl_truckCount l D Z k sz a σ) (cwV 0 hts gL_digest_X7_truckCount rfl rfl rfl (by decide +kernel) ⟨Nat.le_of_ble_eq_true rfl, Nat.le_of_ble_eq_true rfl⟩) (ft_preL hE hz hS hP) rfl rfl hl.1 rfl (lv_room (Nat.le_of_ble_eq_true rfl)) dL_digest_161 ⟨(show 113 + 53 * i_159 + 0 ≤ 431 by omega), (show 678 + 318 * i_159 + 0 ≤ 2586 by omega)⟩)) (fun z hz9 => ?_)
      replace hz9 : z = l_truckCount (ft_nr r) := hz9.trans (ft_ev (f := fun q9 => l_truckCount (ft_nr q9)) hq rfl)
      subst hz9
      refine lv_icmp_ge (tgt := 311) hx hb dL_digest_164 (by decide) (fun c_164 => ?_) (fun c_164 => ?_)
      · replace hsp := (if_pos c_164).symm.trans hsp
        refine W.widen (k := 113 + 318) (n := 678 + 1908) (by omega) (by omega) ?_
        exact hKx y1_159 y3_159 i_159 hi_159 hm_159 _ _ hP hS ls (lv_sub hl [0, 1, 2] rfl) hsp
      · replace hsp := (if_neg c_164).symm.trans hsp
        have hlt_159 := ft_step hi_159 hm_159 c_164
        have hl5_159 : i_159 + 1 ≤ 6 := Nat.le_trans hlt_159 hbn_159
        refine lv_ldc2 (v := 31) hx hb hown (hts (.constantLong RL 192 (31)) (by decide +kernel)) dL_digest_167 ?_
        refine lv_ldc2 (v := 31) hx hb hown (hts (.constantLong RL 192 (31)) (by decide +kernel)) dL_digest_170 ?_
        refine lv_ldc2 (v := 31) hx hb hown (hts (.constantLong RL 192 (31)) (by decide +kernel)) dL_digest_173 ?_
        refine lv_lload_n hx hb dL_digest_176 rfl (lv_at hl 1 rfl) ?_
        refine lv_lmul hx hb dL_digest_177 ?_
        refine lv_aload_n hx hb dL_digest_178 rfl (lv_at hl 0 rfl) ?_
        refine lv_iload_n hx hb dL_digest_179 rfl (lv_at hl 2 rfl) ?_
        refine va_calli (va_runV (As := [.int (y3_159)]) (rest := [.long (31 * y1_159), .long 31, .long 31]) ⟨hx, hb, hml, hown, hts⟩ (ft_noX (z := p_coins (ft_nr r) y3_159) (cl_coins l hl0 D Z k sz a σ y3_159 ) (ft_ev (f := fun q9 => l_coins (ft_nr q9) y3_159) hq (ok_coins (hT y3_159 i_159 hi_159 hlt_159)))) (cwV 1 hts gL_digest_X7_coins rfl rfl rfl (by decide +kernel) ⟨Nat.le_of_ble_eq_true rfl, Nat.le_of_ble_eq_true rfl⟩) (ft_preL hE hz hS hP) rfl rfl hl.1 rfl (lv_room (Nat.le_of_ble_eq_true rfl)) dL_digest_180 ⟨(show 113 + 53 * i_159 + 1 ≤ 431 by omega), (show 678 + 318 * i_159 + 6 ≤ 2586 by omega)⟩) hS (fun _ _ h => h) (fun _ h => h) (fun z u t H1 locs1 ht hvm hw hB hz1 hk1 hS1 => ?_)
        obtain rfl : p_coins (ft_nr r) y3_159 = z := Eq.symm hw
        rw [ht] at hB
        have hP := hB
        have hS := hS1
        clear hS1
        generalize H1 = H at hP hS ⊢
        refine W.widen (k := 114 + 53 * i_159) (n := 684 + 318 * i_159) (by omega) (by omega) ?_
        refine lv_i2l (v := (p_coins (ft_nr r) y3_159).toInt64) hx hb dL_digest_183 rfl ?_
        refine lv_ladd hx hb dL_digest_184 ?_
        refine lv_lmul hx hb dL_digest_185 ?_
        refine lv_aload_n hx hb dL_digest_186 rfl (lv_at hl 0 rfl) ?_
        refine lv_iload_n hx hb dL_digest_187 rfl (lv_at hl 2 rfl) ?_
        refine va_calli (va_runV (As := [.int (y3_159)]) (rest := [.long (31 * ((31 * y1_159) + ((p_coins (ft_nr r) y3_159).toInt64))), .long 31]) ⟨hx, hb, hml, hown, hts⟩ (ft_noX (z := p_minutesLeft (ft_nr r) y3_159) (cl_minutesLeft l hl0 D Z k sz a σ y3_159 ) (ft_ev (f := fun q9 => l_minutesLeft (ft_nr q9) y3_159) hq (ok_minutesLeft (hT y3_159 i_159 hi_159 hlt_159)))) (cwV 1 hts gL_digest_X7_minutesLeft rfl rfl rfl (by decide +kernel) ⟨Nat.le_of_ble_eq_true rfl, Nat.le_of_ble_eq_true rfl⟩) (ft_preL hE hz hS hP) rfl rfl hl.1 rfl (lv_room (Nat.le_of_ble_eq_true rfl)) dL_digest_188 ⟨(show 114 + 53 * i_159 + 1 ≤ 431 by omega), (show 684 + 318 * i_159 + 6 ≤ 2586 by omega)⟩) hS (fun _ _ h => h) (fun _ h => h) (fun z u t H1 locs1 ht hvm hw hB hz1 hk1 hS1 => ?_)
        obtain rfl : p_minutesLeft (ft_nr r) y3_159 = z := Eq.symm hw
        rw [ht] at hB
        have hP := hB
        have hS := hS1
        clear hS1
        generalize H1 = H at hP hS ⊢
        refine W.widen (k := 115 + 53 * i_159) (n := 690 + 318 * i_159) (by omega) (by omega) ?_
        refine lv_i2l (v := (p_minutesLeft (ft_nr r) y3_159).toInt64) hx hb dL_digest_191 rfl ?_
        refine lv_ladd hx hb dL_digest_192 ?_
        refine lv_lmul hx hb dL_digest_193 ?_
        refine lv_aload_n hx hb dL_digest_194 rfl (lv_at hl 0 rfl) ?_
        refine lv_iload_n hx hb dL_digest_195 rfl (lv_at hl 2 rfl) ?_
        refine va_calli (va_runV (As := [.int (y3_159)]) (rest := [.long (31 * ((31 * ((31 * y1_159) + ((p_coins (ft_nr r) y3_159).toInt64))) + ((p_minutesLeft (ft_nr r) y3_159).toInt64)))]) ⟨hx, hb, hml, hown, hts⟩ (ft_noX (z := p_queueLength (ft_nr r) y3_159) (cl_queueLength l hl0 D Z k sz a σ y3_159 ) (ft_ev (f := fun q9 => l_queueLength (ft_nr q9) y3_159) hq (ok_queueLength (hT y3_159 i_159 hi_159 hlt_159)))) (cwV 1 hts gL_digest_X7_queueLength rfl rfl rfl (by decide +kernel) ⟨Nat.le_of_ble_eq_true rfl, Nat.le_of_ble_eq_true rfl⟩) (ft_preL hE hz hS hP) rfl rfl hl.1 rfl (lv_room (Nat.le_of_ble_eq_true rfl)) dL_digest_196 ⟨(show 115 + 53 * i_159 + 1 ≤ 431 by omega), (show 690 + 318 * i_159 + 6 ≤ 2586 by omega)⟩) hS (fun _ _ h => h) (fun _ h => h) (fun z u t H1 locs1 ht hvm hw hB hz1 hk1 hS1 => ?_)
        obtain rfl : p_queueLength (ft_nr r) y3_159 = z := Eq.symm hw
        rw [ht] at hB
        have hP := hB
        have hS := hS1
        clear hS1
        generalize H1 = H at hP hS ⊢
        refine W.widen (k := 116 + 53 * i_159) (n := 696 + 318 * i_159) (by omega) (by omega) ?_
        refine lv_i2l (v := (p_queueLength (ft_nr r) y3_159).toInt64) hx hb dL_digest_199 rfl ?_
        refine lv_ladd hx hb dL_digest_200 ?_
        refine lv_lstore_n (lv' := [(1, .long ((31 * ((31 * ((31 * y1_159) + ((p_coins (ft_nr r) y3_159).toInt64))) + ((p_minutesLeft (ft_nr r) y3_159).toInt64))) + ((p_queueLength (ft_nr r) y3_159).toInt64))), (0, .ref (a)), (3, .int (y3_159))]) hx hb dL_digest_201 rfl hl (by decide) rfl (fun ls hl => ?_)
        refine lv_iconst (v := 0) hx hb dL_digest_202 (by decide) ?_
        refine lv_istore (lv' := [(4, .int (0)), (1, .long ((31 * ((31 * ((31 * y1_159) + ((p_coins (ft_nr r) y3_159).toInt64))) + ((p_minutesLeft (ft_nr r) y3_159).toInt64))) + ((p_queueLength (ft_nr r) y3_159).toInt64))), (0, .ref (a)), (3, .int (y3_159))]) hx hb dL_digest_203 hl (by decide) rfl (fun ls hl => ?_)
        have loop_205 : ∀ (K : Int64 → Int32 → (Int64)) (hKx : ∀ (y1_205 : Int64) (y4_205 : Int32) (i_205 : Nat) (hi_205 : y4_205 = nI i_205) (hm_205 : i_205 ≤ tn 7) (H : Heap) (locs : List Loc) (hP : ft_LW D k Z sz a σ H) (hS : va_S (ft_AL sz) s.heap H locs) (ls : Array Slot) (hl : lv_has ls 5 [(0, .ref (a)), (1, .long y1_205), (3, .int (y3_159)), (4, .int (y4_205))]) (hsp : K y1_205 y4_205 = s_L_digest r), W p l e (headSpec wsL_digest ({ frames := 9, cells := 431, slots := 2586, locals := 176 })).room s m ([.ref a] : List Value).toArray below meth c H locs (116 + 53 * i_159 + 14) (696 + 318 * i_159 + 84) (MQ below (ft_QWl D k Z sz a σ (s_L_digest r)) ([.ref a] : List Value).toArray s 431 2586 (ft_AL sz)) (F0 m 241 ls [])) (n_205 : Nat), ∀ (y1_205 : Int64) (y4_205 : Int32) (i_205 : Nat) (hi_205 : y4_205 = nI i_205) (hm_205 : i_205 ≤ tn 7) (hn_205 : tn 7 < n_205 + i_205) (H : Heap) (locs : List Loc) (hP : ft_LW D k Z sz a σ H) (hS : va_S (ft_AL sz) s.heap H locs) (ls : Array Slot) (hl : lv_has ls 5 [(0, .ref (a)), (1, .long y1_205), (3, .int (y3_159)), (4, .int (y4_205))]) (hsp : s_L_digest_L205 r y1_159 y3_159 K n_205 y1_205 y4_205 = s_L_digest r), W p l e (headSpec wsL_digest ({ frames := 9, cells := 431, slots := 2586, locals := 176 })).room s m ([.ref a] : List Value).toArray below meth c H locs (116 + 53 * i_159 + 2 * i_205) (696 + 318 * i_159 + 12 * i_205) (MQ below (ft_QWl D k Z sz a σ (s_L_digest r)) ([.ref a] : List Value).toArray s 431 2586 (ft_AL sz)) (F0 m 205 ls []) := by
          intro K hKx n_205
          induction n_205 with
          | zero => intro y1_205 y4_205 i_205 hi_205 hm_205 hn_205; exact absurd hn_205 (by omega)
          | succ n ih_205 =>
            intro y1_205 y4_205 i_205 hi_205 hm_205 hn_205 H locs hP hS ls hl hsp
            rw [s_L_digest_L205] at hsp
            have hm5_205 : i_205 ≤ 7 := hm_205
            refine lv_iload hx hb dL_digest_205 (lv_at hl 3 rfl) ?_
            refine lv_bipush (v := 7) hx hb dL_digest_207 (by decide) ?_
            refine lv_icmp_ge (tgt := 241) hx hb dL_digest_209 (by decide) (fun c_209 => ?_) (fun c_209 => ?_)
            · replace hsp := (if_pos c_209).symm.trans hsp
              refine W.widen (k := 116 + 53 * i_159 + 14) (n := 696 + 318 * i_159 + 84) (by omega) (by omega) ?_
              exact hKx y1_205 y4_205 i_205 hi_205 hm_205 _ _ hP hS ls (lv_sub hl [0, 1, 2, 3] rfl) hsp
            · replace hsp := (if_neg c_209).symm.trans hsp
              have hlt_205 := ft_step hi_205 hm_205 c_209
              have hl5_205 : i_205 + 1 ≤ 7 := hlt_205
              refine lv_ldc2 (v := 31) hx hb hown (hts (.constantLong RL 192 (31)) (by decide +kernel)) dL_digest_212 ?_
              refine lv_lload_n hx hb dL_digest_215 rfl (lv_at hl 1 rfl) ?_
              refine lv_lmul hx hb dL_digest_216 ?_
              refine lv_aload_n hx hb dL_digest_217 rfl (lv_at hl 0 rfl) ?_
              refine lv_iload_n hx hb dL_digest_218 rfl (lv_at hl 2 rfl) ?_
              refine lv_iload hx hb dL_digest_219 (lv_at hl 3 rfl) ?_
              refine va_calli (va_runV (As := [.int (y3_159), .int (y4_205)]) (rest := [.long (31 * y1_205)]) ⟨hx, hb, hml, hown, hts⟩ (ft_noX (z := p_hasPermit (ft_nr r) y3_159 y4_205) (cl_hasPermit l hl0 D Z k sz a σ y3_159 y4_205 ) (ft_ev (f := fun q9 => l_hasPermit (ft_nr q9) y3_159 y4_205) hq (ok_hasPermit (hT y3_159 i_159 hi_159 hlt_159) (ft_nw hi_205 hl5_205)))) (cwV 2 hts gL_digest_X7_hasPermit rfl rfl rfl (by decide +kernel) ⟨Nat.le_of_ble_eq_true rfl, Nat.le_of_ble_eq_true rfl⟩) (ft_preL hE hz hS hP) rfl rfl hl.1 rfl (lv_room (Nat.le_of_ble_eq_true rfl)) dL_digest_221 ⟨(show 116 + 53 * i_159 + 2 * i_205 + 2 ≤ 431 by omega), (show 696 + 318 * i_159 + 12 * i_205 + 12 ≤ 2586 by omega)⟩) hS (fun _ _ h => h) (fun _ h => h) (fun z u t H1 locs1 ht hvm hw hB hz1 hk1 hS1 => ?_)
              obtain rfl : p_hasPermit (ft_nr r) y3_159 y4_205 = z := Eq.symm hw
              rw [ht] at hB
              have hP := hB
              have hS := hS1
              clear hS1
              generalize H1 = H at hP hS ⊢
              refine W.widen (k := 118 + 53 * i_159 + 2 * i_205) (n := 708 + 318 * i_159 + 12 * i_205) (by omega) (by omega) ?_
              refine lv_if_eq (tgt := 231) hx hb dL_digest_224 (by decide) (fun c_224 => ?_) (fun c_224 => ?_)
              · replace hsp := (if_pos c_224).symm.trans hsp
                refine lv_iconst (v := 0) hx hb dL_digest_231 (by decide) ?_
                refine lv_i2l (v := (0 : Int32).toInt64) hx hb dL_digest_232 rfl ?_
                refine lv_ladd hx hb dL_digest_233 ?_
                refine lv_lstore_n (lv' := [(1, .long ((31 * y1_205) + ((0 : Int32).toInt64))), (0, .ref (a)), (3, .int (y3_159)), (4, .int (y4_205))]) hx hb dL_digest_234 rfl hl (by decide) rfl (fun ls hl => ?_)
                refine lv_iinc (v := y4_205 + 1) (lv' := [(4, .int (y4_205 + 1)), (1, .long ((31 * y1_205) + ((0 : Int32).toInt64))), (0, .ref (a)), (3, .int (y3_159))]) hx hb dL_digest_235 hl (k := 3) rfl rfl (by decide) rfl (fun ls hl => ?_)
                refine lv_goto (tgt := 205) hx hb dL_digest_238 (by decide) ?_
                refine W.widen (k := 116 + 53 * i_159 + 2 * (i_205 + 1)) (n := 696 + 318 * i_159 + 12 * (i_205 + 1)) (by omega) (by omega) ?_
                exact ih_205 ((31 * y1_205) + ((0 : Int32).toInt64)) (y4_205 + 1) (i_205 + 1) (by rw [hi_205, nI_1]) hlt_205 (by omega) _ _ hP hS ls (lv_sub hl [2, 1, 3, 0] rfl) hsp
              · replace hsp := (if_neg c_224).symm.trans hsp
                refine lv_iconst (v := 1) hx hb dL_digest_227 (by decide) ?_
                refine lv_goto (tgt := 232) hx hb dL_digest_228 (by decide) ?_
                refine lv_i2l (v := (1 : Int32).toInt64) hx hb dL_digest_232 rfl ?_
                refine lv_ladd hx hb dL_digest_233 ?_
                refine lv_lstore_n (lv' := [(1, .long ((31 * y1_205) + ((1 : Int32).toInt64))), (0, .ref (a)), (3, .int (y3_159)), (4, .int (y4_205))]) hx hb dL_digest_234 rfl hl (by decide) rfl (fun ls hl => ?_)
                refine lv_iinc (v := y4_205 + 1) (lv' := [(4, .int (y4_205 + 1)), (1, .long ((31 * y1_205) + ((1 : Int32).toInt64))), (0, .ref (a)), (3, .int (y3_159))]) hx hb dL_digest_235 hl (k := 3) rfl rfl (by decide) rfl (fun ls hl => ?_)
                refine lv_goto (tgt := 205) hx hb dL_digest_238 (by decide) ?_
                refine W.widen (k := 116 + 53 * i_159 + 2 * (i_205 + 1)) (n := 696 + 318 * i_159 + 12 * (i_205 + 1)) (by omega) (by omega) ?_
                exact ih_205 ((31 * y1_205) + ((1 : Int32).toInt64)) (y4_205 + 1) (i_205 + 1) (by rw [hi_205, nI_1]) hlt_205 (by omega) _ _ hP hS ls (lv_sub hl [2, 1, 3, 0] rfl) hsp
        refine W.widen (k := 116 + 53 * i_159 + 2 * 0) (n := 696 + 318 * i_159 + 12 * 0) (by omega) (by omega) ?_
        refine loop_205 _ (fun y1_205 y4_205 i_205 hi_205 hm_205 H locs hP hS ls hl hsp => ?_) (tn 7 + 1) ((31 * ((31 * ((31 * y1_159) + ((p_coins (ft_nr r) y3_159).toInt64))) + ((p_minutesLeft (ft_nr r) y3_159).toInt64))) + ((p_queueLength (ft_nr r) y3_159).toInt64)) 0 0 rfl (Nat.zero_le _) (by omega) _ _ hP hS ls (lv_sub hl [2, 1, 3, 0] rfl) hsp
        refine W.widen (k := 130 + 53 * i_159) (n := 780 + 318 * i_159) (by omega) (by omega) ?_
        refine lv_iconst (v := 0) hx hb dL_digest_241 (by decide) ?_
        refine lv_istore (lv' := [(4, .int (0)), (0, .ref (a)), (1, .long y1_205), (3, .int (y3_159))]) hx hb dL_digest_242 hl (by decide) rfl (fun ls hl => ?_)
        have loop_244 : ∀ (K : Int64 → Int32 → (Int64)) (hKx : ∀ (y1_244 : Int64) (y4_244 : Int32) (i_244 : Nat) (hi_244 : y4_244 = nI i_244) (hm_244 : i_244 ≤ tn 4) (H : Heap) (locs : List Loc) (hP : ft_LW D k Z sz a σ H) (hS : va_S (ft_AL sz) s.heap H locs) (ls : Array Slot) (hl : lv_has ls 5 [(0, .ref (a)), (1, .long y1_244), (3, .int (y3_159)), (4, .int (y4_244))]) (hsp : K y1_244 y4_244 = s_L_digest r), W p l e (headSpec wsL_digest ({ frames := 9, cells := 431, slots := 2586, locals := 176 })).room s m ([.ref a] : List Value).toArray below meth c H locs (130 + 53 * i_159 + 8) (780 + 318 * i_159 + 48) (MQ below (ft_QWl D k Z sz a σ (s_L_digest r)) ([.ref a] : List Value).toArray s 431 2586 (ft_AL sz)) (F0 m 271 ls [])) (n_244 : Nat), ∀ (y1_244 : Int64) (y4_244 : Int32) (i_244 : Nat) (hi_244 : y4_244 = nI i_244) (hm_244 : i_244 ≤ tn 4) (hn_244 : tn 4 < n_244 + i_244) (H : Heap) (locs : List Loc) (hP : ft_LW D k Z sz a σ H) (hS : va_S (ft_AL sz) s.heap H locs) (ls : Array Slot) (hl : lv_has ls 5 [(0, .ref (a)), (1, .long y1_244), (3, .int (y3_159)), (4, .int (y4_244))]) (hsp : s_L_digest_L244 r y1_159 y3_159 K n_244 y1_244 y4_244 = s_L_digest r), W p l e (headSpec wsL_digest ({ frames := 9, cells := 431, slots := 2586, locals := 176 })).room s m ([.ref a] : List Value).toArray below meth c H locs (130 + 53 * i_159 + 2 * i_244) (780 + 318 * i_159 + 12 * i_244) (MQ below (ft_QWl D k Z sz a σ (s_L_digest r)) ([.ref a] : List Value).toArray s 431 2586 (ft_AL sz)) (F0 m 244 ls []) := by
          intro K hKx n_244
          induction n_244 with
          | zero => intro y1_244 y4_244 i_244 hi_244 hm_244 hn_244; exact absurd hn_244 (by omega)
          | succ n ih_244 =>
            intro y1_244 y4_244 i_244 hi_244 hm_244 hn_244 H locs hP hS ls hl hsp
            rw [s_L_digest_L244] at hsp
            have hm5_244 : i_244 ≤ 4 := hm_244
            refine lv_iload hx hb dL_digest_244 (lv_at hl 3 rfl) ?_
            refine lv_iconst (v := 4) hx hb dL_digest_246 (by decide) ?_
            refine lv_icmp_ge (tgt := 271) hx hb dL_digest_247 (by decide) (fun c_247 => ?_) (fun c_247 => ?_)
            · replace hsp := (if_pos c_247).symm.trans hsp
              refine W.widen (k := 130 + 53 * i_159 + 8) (n := 780 + 318 * i_159 + 48) (by omega) (by omega) ?_
              exact hKx y1_244 y4_244 i_244 hi_244 hm_244 _ _ hP hS ls (lv_sub hl [0, 1, 2, 3] rfl) hsp
            · replace hsp := (if_neg c_247).symm.trans hsp
              have hlt_244 := ft_step hi_244 hm_244 c_247
              have hl5_244 : i_244 + 1 ≤ 4 := hlt_244
              refine lv_ldc2 (v := 31) hx hb hown (hts (.constantLong RL 192 (31)) (by decide +kernel)) dL_digest_250 ?_
              refine lv_lload_n hx hb dL_digest_253 rfl (lv_at hl 1 rfl) ?_
              refine lv_lmul hx hb dL_digest_254 ?_
              refine lv_aload_n hx hb dL_digest_255 rfl (lv_at hl 0 rfl) ?_
              refine lv_iload_n hx hb dL_digest_256 rfl (lv_at hl 2 rfl) ?_
              refine lv_iload hx hb dL_digest_257 (lv_at hl 3 rfl) ?_
              refine va_calli (va_runV (As := [.int (y3_159), .int (y4_244)]) (rest := [.long (31 * y1_244)]) ⟨hx, hb, hml, hown, hts⟩ (ft_noX (z := p_stock (ft_nr r) y3_159 y4_244) (cl_stock l hl0 D Z k sz a σ y3_159 y4_244 ) (ft_ev (f := fun q9 => l_stock (ft_nr q9) y3_159 y4_244) hq (ok_stock (hT y3_159 i_159 hi_159 hlt_159) (ft_nd hi_244 hl5_244)))) (cwV 2 hts gL_digest_X7_stock rfl rfl rfl (by decide +kernel) ⟨Nat.le_of_ble_eq_true rfl, Nat.le_of_ble_eq_true rfl⟩) (ft_preL hE hz hS hP) rfl rfl hl.1 rfl (lv_room (Nat.le_of_ble_eq_true rfl)) dL_digest_259 ⟨(show 130 + 53 * i_159 + 2 * i_244 + 2 ≤ 431 by omega), (show 780 + 318 * i_159 + 12 * i_244 + 12 ≤ 2586 by omega)⟩) hS (fun _ _ h => h) (fun _ h => h) (fun z u t H1 locs1 ht hvm hw hB hz1 hk1 hS1 => ?_)
              obtain rfl : p_stock (ft_nr r) y3_159 y4_244 = z := Eq.symm hw
              rw [ht] at hB
              have hP := hB
              have hS := hS1
              clear hS1
              generalize H1 = H at hP hS ⊢
              refine W.widen (k := 132 + 53 * i_159 + 2 * i_244) (n := 792 + 318 * i_159 + 12 * i_244) (by omega) (by omega) ?_
              refine lv_i2l (v := (p_stock (ft_nr r) y3_159 y4_244).toInt64) hx hb dL_digest_262 rfl ?_
              refine lv_ladd hx hb dL_digest_263 ?_
              refine lv_lstore_n (lv' := [(1, .long ((31 * y1_244) + ((p_stock (ft_nr r) y3_159 y4_244).toInt64))), (0, .ref (a)), (3, .int (y3_159)), (4, .int (y4_244))]) hx hb dL_digest_264 rfl hl (by decide) rfl (fun ls hl => ?_)
              refine lv_iinc (v := y4_244 + 1) (lv' := [(4, .int (y4_244 + 1)), (1, .long ((31 * y1_244) + ((p_stock (ft_nr r) y3_159 y4_244).toInt64))), (0, .ref (a)), (3, .int (y3_159))]) hx hb dL_digest_265 hl (k := 3) rfl rfl (by decide) rfl (fun ls hl => ?_)
              refine lv_goto (tgt := 244) hx hb dL_digest_268 (by decide) ?_
              refine W.widen (k := 130 + 53 * i_159 + 2 * (i_244 + 1)) (n := 780 + 318 * i_159 + 12 * (i_244 + 1)) (by omega) (by omega) ?_
              exact ih_244 ((31 * y1_244) + ((p_stock (ft_nr r) y3_159 y4_244).toInt64)) (y4_244 + 1) (i_244 + 1) (by rw [hi_244, nI_1]) hlt_244 (by omega) _ _ hP hS ls (lv_sub hl [2, 1, 3, 0] rfl) hsp
        refine W.widen (k := 130 + 53 * i_159 + 2 * 0) (n := 780 + 318 * i_159 + 12 * 0) (by omega) (by omega) ?_
        refine loop_244 _ (fun y1_244 y4_244 i_244 hi_244 hm_244 H locs hP hS ls hl hsp => ?_) (tn 4 + 1) y1_205 0 0 rfl (Nat.zero_le _) (by omega) _ _ hP hS ls (lv_sub hl [1, 2, 3, 0] rfl) hsp
        refine W.widen (k := 138 + 53 * i_159) (n := 828 + 318 * i_159) (by omega) (by omega) ?_
        refine lv_iconst (v := 0) hx hb dL_digest_271 (by decide) ?_
        refine lv_istore (lv' := [(4, .int (0)), (0, .ref (a)), (1, .long y1_244), (3, .int (y3_159))]) hx hb dL_digest_272 hl (by decide) rfl (fun ls hl => ?_)
        have hbn_274 : tn (p_queueLength (ft_nr r) y3_159) ≤ 9 := hQ y3_159 i_159 hi_159 hlt_159
        have loop_274 : ∀ (K : Int64 → Int32 → (Int64)) (hKx : ∀ (y1_274 : Int64) (y4_274 : Int32) (i_274 : Nat) (hi_274 : y4_274 = nI i_274) (hm_274 : i_274 ≤ tn (p_queueLength (ft_nr r) y3_159)) (H : Heap) (locs : List Loc) (hP : ft_LW D k Z sz a σ H) (hS : va_S (ft_AL sz) s.heap H locs) (ls : Array Slot) (hl : lv_has ls 5 [(0, .ref (a)), (1, .long y1_274), (3, .int (y3_159)), (4, .int (y4_274))]) (hsp : K y1_274 y4_274 = s_L_digest r), W p l e (headSpec wsL_digest ({ frames := 9, cells := 431, slots := 2586, locals := 176 })).room s m ([.ref a] : List Value).toArray below meth c H locs (138 + 53 * i_159 + 28) (828 + 318 * i_159 + 168) (MQ below (ft_QWl D k Z sz a σ (s_L_digest r)) ([.ref a] : List Value).toArray s 431 2586 (ft_AL sz)) (F0 m 305 ls [])) (n_274 : Nat), ∀ (y1_274 : Int64) (y4_274 : Int32) (i_274 : Nat) (hi_274 : y4_274 = nI i_274) (hm_274 : i_274 ≤ tn (p_queueLength (ft_nr r) y3_159)) (hn_274 : tn (p_queueLength (ft_nr r) y3_159) < n_274 + i_274) (H : Heap) (locs : List Loc) (hP : ft_LW D k Z sz a σ H) (hS : va_S (ft_AL sz) s.heap H locs) (ls : Array Slot) (hl : lv_has ls 5 [(0, .ref (a)), (1, .long y1_274), (3, .int (y3_159)), (4, .int (y4_274))]) (hsp : s_L_digest_L274 r y1_159 y3_159 K n_274 y1_274 y4_274 = s_L_digest r), W p l e (headSpec wsL_digest ({ frames := 9, cells := 431, slots := 2586, locals := 176 })).room s m ([.ref a] : List Value).toArray below meth c H locs (138 + 53 * i_159 + 3 * i_274) (828 + 318 * i_159 + 18 * i_274) (MQ below (ft_QWl D k Z sz a σ (s_L_digest r)) ([.ref a] : List Value).toArray s 431 2586 (ft_AL sz)) (F0 m 274 ls []) := by
          intro K hKx n_274
          induction n_274 with
          | zero => intro y1_274 y4_274 i_274 hi_274 hm_274 hn_274; exact absurd hn_274 (by omega)
          | succ n ih_274 =>
            intro y1_274 y4_274 i_274 hi_274 hm_274 hn_274 H locs hP hS ls hl hsp
            rw [s_L_digest_L274] at hsp
            have hm5_274 : i_274 ≤ 9 := Nat.le_trans hm_274 hbn_274
            refine lv_iload hx hb dL_digest_274 (lv_at hl 3 rfl) ?_
            refine lv_aload_n hx hb dL_digest_276 rfl (lv_at hl 0 rfl) ?_
            refine lv_iload_n hx hb dL_digest_277 rfl (lv_at hl 2 rfl) ?_
            refine va_calli (va_runV (As := [.int (y3_159)]) (rest := [.int (y4_274)]) ⟨hx, hb, hml, hown, hts⟩ (ft_noX (z := p_queueLength (ft_nr r) y3_159) (cl_queueLength l hl0 D Z k sz a σ y3_159 ) (ft_ev (f := fun q9 => l_queueLength (ft_nr q9) y3_159) hq (ok_queueLength (hT y3_159 i_159 hi_159 hlt_159)))) (cwV 1 hts gL_digest_X7_queueLength rfl rfl rfl (by decide +kernel) ⟨Nat.le_of_ble_eq_true rfl, Nat.le_of_ble_eq_true rfl⟩) (ft_preL hE hz hS hP) rfl rfl hl.1 rfl (lv_room (Nat.le_of_ble_eq_true rfl)) dL_digest_278 ⟨(show 138 + 53 * i_159 + 3 * i_274 + 1 ≤ 431 by omega), (show 828 + 318 * i_159 + 18 * i_274 + 6 ≤ 2586 by omega)⟩) hS (fun _ _ h => h) (fun _ h => h) (fun z u t H1 locs1 ht hvm hw hB hz1 hk1 hS1 => ?_)
            obtain rfl : p_queueLength (ft_nr r) y3_159 = z := Eq.symm hw
            rw [ht] at hB
            have hP := hB
            have hS := hS1
            clear hS1
            generalize H1 = H at hP hS ⊢
            refine W.widen (k := 139 + 53 * i_159 + 3 * i_274) (n := 834 + 318 * i_159 + 18 * i_274) (by omega) (by omega) ?_
            refine lv_icmp_ge (tgt := 305) hx hb dL_digest_281 (by decide) (fun c_281 => ?_) (fun c_281 => ?_)
            · replace hsp := (if_pos c_281).symm.trans hsp
              refine W.widen (k := 138 + 53 * i_159 + 28) (n := 828 + 318 * i_159 + 168) (by omega) (by omega) ?_
              exact hKx y1_274 y4_274 i_274 hi_274 hm_274 _ _ hP hS ls (lv_sub hl [0, 1, 2, 3] rfl) hsp
            · replace hsp := (if_neg c_281).symm.trans hsp
              have hlt_274 := ft_step hi_274 hm_274 c_281
              have hl5_274 : i_274 + 1 ≤ 9 := Nat.le_trans hlt_274 hbn_274
              refine lv_ldc2 (v := 31) hx hb hown (hts (.constantLong RL 192 (31)) (by decide +kernel)) dL_digest_284 ?_
              refine lv_lload_n hx hb dL_digest_287 rfl (lv_at hl 1 rfl) ?_
              refine lv_lmul hx hb dL_digest_288 ?_
              refine lv_aload_n hx hb dL_digest_289 rfl (lv_at hl 0 rfl) ?_
              refine lv_iload_n hx hb dL_digest_290 rfl (lv_at hl 2 rfl) ?_
              refine lv_iload hx hb dL_digest_291 (lv_at hl 3 rfl) ?_
              refine va_calli (va_runV (As := [.int (y3_159), .int (y4_274)]) (rest := [.long (31 * y1_274)]) ⟨hx, hb, hml, hown, hts⟩ (ft_noX (z := p_wantedDish (ft_nr r) y3_159 y4_274) (cl_wantedDish l hl0 D Z k sz a σ y3_159 y4_274 ) (ft_ev (f := fun q9 => l_wantedDish (ft_nr q9) y3_159 y4_274) hq (ok_wantedDish (hT y3_159 i_159 hi_159 hlt_159) (hWd y3_159 y4_274 i_159 i_274 hi_159 hlt_159 hi_274 hlt_274)))) (cwV 2 hts gL_digest_X7_wantedDish rfl rfl rfl (by decide +kernel) ⟨Nat.le_of_ble_eq_true rfl, Nat.le_of_ble_eq_true rfl⟩) (ft_preL hE hz hS hP) rfl rfl hl.1 rfl (lv_room (Nat.le_of_ble_eq_true rfl)) dL_digest_293 ⟨(show 139 + 53 * i_159 + 3 * i_274 + 2 ≤ 431 by omega), (show 834 + 318 * i_159 + 18 * i_274 + 12 ≤ 2586 by omega)⟩) hS (fun _ _ h => h) (fun _ h => h) (fun z u t H1 locs1 ht hvm hw hB hz1 hk1 hS1 => ?_)
              obtain rfl : p_wantedDish (ft_nr r) y3_159 y4_274 = z := Eq.symm hw
              rw [ht] at hB
              have hP := hB
              have hS := hS1
              clear hS1
              generalize H1 = H at hP hS ⊢
              refine W.widen (k := 141 + 53 * i_159 + 3 * i_274) (n := 846 + 318 * i_159 + 18 * i_274) (by omega) (by omega) ?_
              refine lv_i2l (v := (p_wantedDish (ft_nr r) y3_159 y4_274).toInt64) hx hb dL_digest_296 rfl ?_
              refine lv_ladd hx hb dL_digest_297 ?_
              refine lv_lstore_n (lv' := [(1, .long ((31 * y1_274) + ((p_wantedDish (ft_nr r) y3_159 y4_274).toInt64))), (0, .ref (a)), (3, .int (y3_159)), (4, .int (y4_274))]) hx hb dL_digest_298 rfl hl (by decide) rfl (fun ls hl => ?_)
              refine lv_iinc (v := y4_274 + 1) (lv' := [(4, .int (y4_274 + 1)), (1, .long ((31 * y1_274) + ((p_wantedDish (ft_nr r) y3_159 y4_274).toInt64))), (0, .ref (a)), (3, .int (y3_159))]) hx hb dL_digest_299 hl (k := 3) rfl rfl (by decide) rfl (fun ls hl => ?_)
              refine lv_goto (tgt := 274) hx hb dL_digest_302 (by decide) ?_
              refine W.widen (k := 138 + 53 * i_159 + 3 * (i_274 + 1)) (n := 828 + 318 * i_159 + 18 * (i_274 + 1)) (by omega) (by omega) ?_
              exact ih_274 ((31 * y1_274) + ((p_wantedDish (ft_nr r) y3_159 y4_274).toInt64)) (y4_274 + 1) (i_274 + 1) (by rw [hi_274, nI_1]) hlt_274 (by omega) _ _ hP hS ls (lv_sub hl [2, 1, 3, 0] rfl) hsp
        refine W.widen (k := 138 + 53 * i_159 + 3 * 0) (n := 828 + 318 * i_159 + 18 * 0) (by omega) (by omega) ?_
        refine loop_274 _ (fun y1_274 y4_274 i_274 hi_274 hm_274 H locs hP hS ls hl hsp => ?_) (tn (p_queueLength (ft_nr r) y3_159) + 1) y1_244 0 0 rfl (Nat.zero_le _) (by omega) _ _ hP hS ls (lv_sub hl [1, 2, 3, 0] rfl) hsp
        refine W.widen (k := 166 + 53 * i_159) (n := 996 + 318 * i_159) (by omega) (by omega) ?_
        refine lv_iinc (v := y3_159 + 1) (lv' := [(3, .int (y3_159 + 1)), (0, .ref (a)), (1, .long y1_274), (4, .int (y4_274))]) hx hb dL_digest_305 hl (k := 2) rfl rfl (by decide) rfl (fun ls hl => ?_)
        refine lv_goto (tgt := 159) hx hb dL_digest_308 (by decide) ?_
        refine W.widen (k := 113 + 53 * (i_159 + 1)) (n := 678 + 318 * (i_159 + 1)) (by omega) (by omega) ?_
        exact ih_159 y1_274 (y3_159 + 1) (i_159 + 1) (by rw [hi_159, nI_1]) hlt_159 (by omega) _ _ hP hS ls (lv_sub hl [1, 2, 0] rfl) hsp
  refine W.widen (k := 113 + 53 * 0) (n := 678 + 318 * 0) (by omega) (by omega) ?_
  refine loop_159 _ (fun y1_159 y3_159 i_159 hi_159 hm_159 H locs hP hS ls hl hsp => ?_) (tn (l_truckCount (ft_nr r)) + 1) y1_115 0 0 rfl (Nat.zero_le _) (by omega) _ _ hP hS ls (lv_sub hl [1, 2, 0] rfl) hsp
  refine W.widen (k := 431) (n := 2586) (by omega) (by omega) ?_
  refine lv_lload_n hx hb dL_digest_311 rfl (lv_at hl 1 rfl) ?_
  refine W.widen (k := 431) (n := 2586) (by omega) (by omega) ?_
  exact W.lret (v := y1_159) hx hb hr (fun t ht hW => ⟨⟨y1_159, (), rfl, hsp, by show ft_LW D k Z sz a _ t.heap; rw [ht]; exact hP⟩, hS.F ht⟩) hS.2.2 dL_digest_312
