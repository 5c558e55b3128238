/-! texts. Y: a row of bytes (its length, its bytes); B: a StringBuilder of Latin-1 bytes (maybeLatin1, count, its row's length, its bytes) -/
abbrev ft_TY : Type := Nat × (Nat → Int32)
abbrev ft_TB : Type := Int32 × Int32 × Nat × (Nat → Int32)
def ft_Y (k : Nat → ClassId) (u : ft_TY) : Nat → va_E := fun _ => .inl (k 4, u.1, .inl u.2)
def ft_B (ad : Nat → Nat) (k : Nat → ClassId) (u : ft_TB) : Nat → va_E := fun j => match j with
  | 0 => .inr (1, [.ref (ad 1), .int 0, .int u.1, .int u.2.1])
  | _ => .inl (k 4, u.2.2.1, .inl u.2.2.2)
abbrev ft_WY (ad : Nat → Nat) (k : Nat → ClassId) (u : ft_TY) : va_W := ft_W 1 ad (ft_Y k u)
abbrev ft_WB (ad : Nat → Nat) (k : Nat → ClassId) (u : ft_TB) : va_W := ft_W 2 ad (ft_B ad k u)
def ft_b8 (x : Int32) : Int32 := vp_nar .byte x
def ft_rq (v : Value) : Prop := v = .null ∨ ∃ t : Nat, v = .ref t
theorem ft_Y_s {ad : Nat → Nat} {k : Nat → ClassId} {m : Nat} {f : Nat → Int32} {i : Nat} {v : Int32} : (ft_WY ad k (m, f)).set 0 (ad 0, .inl (k 4, m, .inl (upd f i v))) = ft_WY ad k (m, va_up f i v) := by
  refine ft_set' (fun j hj => ?_)
  match j, hj with
  | 0, _ =>
    rw [va_up_self]
    refine congrArg (fun g => (.inl (k 4, m, .inl g) : va_E)) (funext fun x => ?_)
    show upd f i v x = va_up f i v x
    by_cases hx : x = i
    · subst hx; rw [va_up_self]; simp [upd]
    · rw [va_up_ne _ _ hx]; simp [upd, hx]
theorem ft_B_Y {D : va_G} {ad : Nat → Nat} {k : Nat → ClassId} {u : ft_TB} {H : Heap} (hP : va_P D vwCl (ft_WB ad k u) H) : va_P D vwCl (ft_WY (fun j => ad (1 + j)) k (u.2.2.1, u.2.2.2)) H :=
  ft_P_sub (m := 1) hP (fun j => 1 + j) (fun j hj => by omega) (fun _ _ => rfl) (fun j hj => match j, hj with | 0, _ => rfl)
theorem ft_atSB {D : va_G} {k : Nat → ClassId} {s : State} (hK : ft_K D k s) : ClassAt s RJ4 (D.1 1) := (hK.1.1 1 _ rfl).2
theorem ft_preSc {D : va_G} {k : Nat → ClassId} {s : State} {H : Heap} {As : List Value} {ws : va_W} (hK : ft_K D k s) (hP : va_P D vwCl ws H) : PreS s H (ft_Pc D k As ws) As := ⟨ft_Pc.blind, fun U hU hW => ⟨rfl, by rw [hU]; exact hP, hK.warm hW⟩⟩
theorem ft_preSd {D : va_G} {k : Nat → ClassId} {s : State} {H : Heap} {As : List Value} {ws : va_W} {A : Nat → Prop} (hK : ft_K D k s) (hP : va_P D vwCl ws H) (hD : va_D A ws) : PreS s H (ft_Pd D k As ws) As := ⟨ft_Pd.blind, fun U hU hW => ⟨rfl, by rw [hU]; exact hP, hK.warm hW, hD.weaken (fun _ _ _ _ => trivial)⟩⟩
theorem ft_preSe {D : va_G} {k : Nat → ClassId} {Z : Nat → Nat → Nat} {A B : Nat → Prop} {s : State} {H : Heap} {locs : List Loc} {As : List Value} {ws : va_W} (hE : ft_E D k Z A s) (hS : va_S A s.heap H locs) (hAB : ∀ q, B q → A q) (hP : va_P D vwCl ws H) : PreS s H (ft_Pe D k Z B As ws) As := ⟨ft_Pe.blind, fun U hU hW => ⟨rfl, by rw [hU]; exact hP, hE.go hS hAB hU hW⟩⟩
theorem ft_preSf {D : va_G} {k : Nat → ClassId} {Z : Nat → Nat → Nat} {A B A' : Nat → Prop} {s : State} {H : Heap} {locs : List Loc} {As : List Value} {ws : va_W} (hE : ft_E D k Z A s) (hS : va_S A s.heap H locs) (hAB : ∀ q, B q → A q) (hP : va_P D vwCl ws H) (hD : va_D A' ws) : PreS s H (ft_Pf D k Z B As ws) As := ⟨ft_Pf.blind, fun U hU hW => ⟨rfl, by rw [hU]; exact hP, hE.go hS hAB hU hW, hD.weaken (fun _ _ _ _ => trivial)⟩⟩
theorem in_cx {i n : Int32} {m : Nat} (h1 : ¬ i < 0) (h2 : i < n) (hn : n = nI m) (hm : m < 2 ^ 31) : vp_in i m := by
  subst hn
  have h := in_of2 h1 h2
  rwa [show tn (nI m) = m from nI_clamp hm] at h

theorem ft_nar_c (x : Int32) : narrow .char (.int ((x.toUInt32 % 65536).toInt32)) = .int ((x.toUInt32 % 65536).toInt32) := by
  have h : ((x.toUInt32 % 65536).toInt32).toUInt32.toUInt16.toUInt32 = x.toUInt32 % 65536 := by
    simp
    exact UInt32.toNat_inj.mp (by rw [UInt32.toNat_mod, UInt32.toNat_mod]; exact Nat.mod_mod _ _)
  show Value.int _ = Value.int _
  rw [h]

def s_J3_checkIndex_8e157 (x1 : Int32) (x2 : Int32) : Int32 := x1
set_option maxHeartbeats 4000000 in
set_option maxRecDepth 100000 in
theorem c_J3_checkIndex_8e157 (l : Launch) (x1 : Int32) (x2 : Int32) (w : Value) (hw : ft_rq w) (h1 : ¬ x1 < 0) (h2 : x1 < x2) : Met l yJ3_checkIndex_8e157 wsJ3_checkIndex_8e157 ({ frames := 0, cells := 0, slots := 0, locals := 0 }) (ft_Pn [.int x1, .int x2, w]) (vp_Si (fun z : Int32 => z = s_J3_checkIndex_8e157 x1 x2)) 0 0 (fun _ => False) := by
  rcases hw with rfl | ⟨t9, rfl⟩
  · skip
    refine va_MetF (cc := cJ3_checkIndex_8e157) (maxL := 3) (ret := (some .int)) (by decide +kernel) rfl ?_
    intro p e s m args below meth c s₁ B hml hv
    obtain ⟨hargs, -⟩ := hv
    subst hargs
    have hx := B.exec
    have hb := B.bytes
    have hr := B.returns
    have hts := atoms_spec (ws := wsJ3_checkIndex_8e157) B.pre
    have hown : s.vm.findClass RJ3 = some m.cls := findClass_of_methodNamed B.named
    have hlocks := B.notSynchronized
    have hl := lv_entry ([.int x1, .int x2, .null]) (n := 3) (Nat.le_of_ble_eq_true rfl)
    rw [lg_entry_eq]
    generalize (lg_sl ([.int x1, .int x2, .null]) ++ List.replicate (3 - (lg_sl ([.int x1, .int x2, .null])).length) Slot.unset).toArray = ls at hl ⊢
    have hl : lv_has ls 3 [(0, .int (x1)), (1, .int (x2)), (2, .null)] := hl
    have hsp := (s_J3_checkIndex_8e157.eq_1  x1 x2).symm
    refine lv_iload_n hx hb dJ3_checkIndex_8e157_0 rfl (lv_at hl 0 rfl) ?_
    refine lv_if_lt (tgt := 9) hx hb dJ3_checkIndex_8e157_1 (by decide) (fun c_1 => ?_) (fun c_1 => ?_)
    · skip
      exact absurd c_1 h1
    · skip
      refine lv_iload_n hx hb dJ3_checkIndex_8e157_4 rfl (lv_at hl 0 rfl) ?_
      refine lv_iload_n hx hb dJ3_checkIndex_8e157_5 rfl (lv_at hl 1 rfl) ?_
      refine lv_icmp_lt (tgt := 16) hx hb dJ3_checkIndex_8e157_6 (by decide) (fun c_6 => ?_) (fun c_6 => ?_)
      · skip
        refine lv_iload_n hx hb dJ3_checkIndex_8e157_16 rfl (lv_at hl 0 rfl) ?_
        exact W.iret (v := x1) hx hb hr (fun t ht hW => ft_endi (post := fun z : Int32 => z = s_J3_checkIndex_8e157 x1 x2) hsp ht) (fun _ h => absurd h List.not_mem_nil) dJ3_checkIndex_8e157_17
      · skip
        exact absurd h2 c_6
  · skip
    refine va_MetF (cc := cJ3_checkIndex_8e157) (maxL := 3) (ret := (some .int)) (by decide +kernel) rfl ?_
    intro p e s m args below meth c s₁ B hml hv
    obtain ⟨hargs, -⟩ := hv
    subst hargs
    have hx := B.exec
    have hb := B.bytes
    have hr := B.returns
    have hts := atoms_spec (ws := wsJ3_checkIndex_8e157) B.pre
    have hown : s.vm.findClass RJ3 = some m.cls := findClass_of_methodNamed B.named
    have hlocks := B.notSynchronized
    have hl := lv_entry ([.int x1, .int x2, .ref t9]) (n := 3) (Nat.le_of_ble_eq_true rfl)
    rw [lg_entry_eq]
    generalize (lg_sl ([.int x1, .int x2, .ref t9]) ++ List.replicate (3 - (lg_sl ([.int x1, .int x2, .ref t9])).length) Slot.unset).toArray = ls at hl ⊢
    have hl : lv_has ls 3 [(0, .int (x1)), (1, .int (x2)), (2, .ref t9)] := hl
    have hsp := (s_J3_checkIndex_8e157.eq_1  x1 x2).symm
    refine lv_iload_n hx hb dJ3_checkIndex_8e157_0 rfl (lv_at hl 0 rfl) ?_
    refine lv_if_lt (tgt := 9) hx hb dJ3_checkIndex_8e157_1 (by decide) (fun c_1 => ?_) (fun c_1 => ?_)
    · skip
      exact absurd c_1 h1
    · skip
      refine lv_iload_n hx hb dJ3_checkIndex_8e157_4 rfl (lv_at hl 0 rfl) ?_
      refine lv_iload_n hx hb dJ3_checkIndex_8e157_5 rfl (lv_at hl 1 rfl) ?_
      refine lv_icmp_lt (tgt := 16) hx hb dJ3_checkIndex_8e157_6 (by decide) (fun c_6 => ?_) (fun c_6 => ?_)
      · skip
        refine lv_iload_n hx hb dJ3_checkIndex_8e157_16 rfl (lv_at hl 0 rfl) ?_
        exact W.iret (v := x1) hx hb hr (fun t ht hW => ft_endi (post := fun z : Int32 => z = s_J3_checkIndex_8e157 x1 x2) hsp ht) (fun _ h => absurd h List.not_mem_nil) dJ3_checkIndex_8e157_17
      · skip
        exact absurd h2 c_6

set_option maxHeartbeats 4000000 in
set_option maxRecDepth 100000 in
theorem c_J0_checkIndex_df160 (l : Launch) (dC : va_G) (Z : Nat → Nat → Nat) (A : Nat → Prop) (k : Nat → ClassId) (x1 : Int32) (x2 : Int32)  (h1 : ¬ x1 < 0) (h2 : x1 < x2) : Met l yJ0_checkIndex_df160 wsJ0_checkIndex_df160 ({ frames := 1, cells := 0, slots := 0, locals := 22 }) (ft_Po dC k Z A [.int x1, .int x2]) (va_Sv (fun _ => True)) 0 0 (fun _ => False) := by
  refine va_MetF (cc := cJ0_checkIndex_df160) (maxL := 2) (ret := none) (by decide +kernel) rfl ?_
  intro p e s m args below meth c s₁ B hml hv
  obtain ⟨hargs, hE⟩ := hv
  have hK := hE.1
  subst hargs
  have hx := B.exec
  have hb := B.bytes
  have hr := B.returns
  have hts := atoms_spec (ws := wsJ0_checkIndex_df160) B.pre
  have hown : s.vm.findClass RJ0 = some m.cls := findClass_of_methodNamed B.named
  have hlocks := B.notSynchronized
  have hS : va_S A s.heap s.heap [] := va_S.rf
  have hl := lv_entry ([.int x1, .int x2]) (n := 2) (Nat.le_of_ble_eq_true rfl)
  rw [lg_entry_eq]
  generalize (lg_sl ([.int x1, .int x2]) ++ List.replicate (2 - (lg_sl ([.int x1, .int x2])).length) Slot.unset).toArray = ls at hl ⊢
  have hl : lv_has ls 2 [(0, .int (x1)), (1, .int (x2))] := hl
  refine lv_iload_n hx hb dJ0_checkIndex_df160_0 rfl (lv_at hl 0 rfl) ?_
  refine lv_iload_n hx hb dJ0_checkIndex_df160_1 rfl (lv_at hl 1 rfl) ?_
  rcases hE.2.2.sf with hz | ⟨t9, hz⟩
  · skip
    refine va_gets (C := "jdk/internal/util/Preconditions") (n := "SIOOBE_FORMATTER") (d := "Ljava/util/function/BiFunction;") hx hb hz hS hown (hts (.fieldLink RJ0 1053 "jdk/internal/util/Preconditions" "SIOOBE_FORMATTER" "Ljava/util/function/BiFunction;") (by decide +kernel)) (fun _ h9 => h9) dJ0_checkIndex_df160_2 ?_
    refine vp_callSi (va_Run.run (va_runS (As := [.int (x1), .int (x2), .null]) (rest := []) ⟨hx, hb, hml, hown, hts⟩ (c_J3_checkIndex_8e157 l x1 x2 .null (Or.inl rfl) h1 h2) (va_cwS 3 hts gJ0_checkIndex_df160_J3_checkIndex_8e157 rfl rfl rfl (by decide +kernel) ⟨Nat.le_of_ble_eq_true rfl, Nat.le_of_ble_eq_true rfl⟩) ft_preSn rfl rfl hl.1 rfl (lv_room (Nat.le_of_ble_eq_true rfl)) dJ0_checkIndex_df160_5 ⟨Nat.le_of_ble_eq_true rfl, Nat.le_of_ble_eq_true rfl⟩)) (fun z hz => ?_)
    subst hz
    refine lv_pop hx hb dJ0_checkIndex_df160_8 rfl ?_
    exact W.vret hx hb hr (fun t ht hW => ⟨rfl, trivial, ht⟩) (fun _ h => absurd h List.not_mem_nil) dJ0_checkIndex_df160_9
  · skip
    refine va_gets (C := "jdk/internal/util/Preconditions") (n := "SIOOBE_FORMATTER") (d := "Ljava/util/function/BiFunction;") hx hb hz hS hown (hts (.fieldLink RJ0 1053 "jdk/internal/util/Preconditions" "SIOOBE_FORMATTER" "Ljava/util/function/BiFunction;") (by decide +kernel)) (fun _ h9 => h9) dJ0_checkIndex_df160_2 ?_
    refine vp_callSi (va_Run.run (va_runS (As := [.int (x1), .int (x2), .ref (t9)]) (rest := []) ⟨hx, hb, hml, hown, hts⟩ (c_J3_checkIndex_8e157 l x1 x2 (.ref t9) (Or.inr ⟨t9, rfl⟩) h1 h2) (va_cwS 3 hts gJ0_checkIndex_df160_J3_checkIndex_8e157 rfl rfl rfl (by decide +kernel) ⟨Nat.le_of_ble_eq_true rfl, Nat.le_of_ble_eq_true rfl⟩) ft_preSn rfl rfl hl.1 rfl (lv_room (Nat.le_of_ble_eq_true rfl)) dJ0_checkIndex_df160_5 ⟨Nat.le_of_ble_eq_true rfl, Nat.le_of_ble_eq_true rfl⟩)) (fun z hz => ?_)
    subst hz
    refine lv_pop hx hb dJ0_checkIndex_df160_8 rfl ?_
    exact W.vret hx hb hr (fun t ht hW => ⟨rfl, trivial, ht⟩) (fun _ h => absurd h List.not_mem_nil) dJ0_checkIndex_df160_9

def s_J1_charAt_3b067 (u : ft_TY) (x2 : Int32) : Int32 := (((u.2 (tn x2)) &&& 255).toUInt32 % 65536).toInt32
set_option maxHeartbeats 4000000 in
set_option maxRecDepth 100000 in
theorem c_J1_charAt_3b067 (l : Launch) (dC : va_G) (Z : Nat → Nat → Nat) (A : Nat → Prop) (ad : Nat → Nat) (k : Nat → ClassId) (u : ft_TY) (x2 : Int32)  (h1 : ¬ x2 < 0) (h2 : x2 < nI u.1) (h3 : u.1 < 2 ^ 31) : Met l yJ1_charAt_3b067 wsJ1_charAt_3b067 ({ frames := 2, cells := 0, slots := 0, locals := 43 }) (ft_Pe dC k Z A [.ref (ad 0), .int x2] (ft_WY ad k u)) (vp_Si (fun z : Int32 => z = s_J1_charAt_3b067 u x2)) 0 0 (fun _ => False) := by
  refine va_MetF (cc := cJ1_charAt_3b067) (maxL := 2) (ret := (some .char)) (by decide +kernel) rfl ?_
  intro p e s m args below meth c s₁ B hml hv
  obtain ⟨hargs, hP, hE⟩ := hv
  have hK := hE.1
  subst hargs
  have hx := B.exec
  have hb := B.bytes
  have hr := B.returns
  have hts := atoms_spec (ws := wsJ1_charAt_3b067) B.pre
  have hown : s.vm.findClass RJ1 = some m.cls := findClass_of_methodNamed B.named
  have hlocks := B.notSynchronized
  have hS : va_S A s.heap s.heap [] := va_S.rf
  have hl := lv_entry ([.ref (ad 0), .int x2]) (n := 2) (Nat.le_of_ble_eq_true rfl)
  rw [lg_entry_eq]
  generalize (lg_sl ([.ref (ad 0), .int x2]) ++ List.replicate (2 - (lg_sl ([.ref (ad 0), .int x2])).length) Slot.unset).toArray = ls at hl ⊢
  have hl : lv_has ls 2 [(0, .ref (ad 0)), (1, .int (x2))] := hl
  have hsp := (s_J1_charAt_3b067.eq_1 u x2).symm
  refine lv_iload_n hx hb dJ1_charAt_3b067_0 rfl (lv_at hl 1 rfl) ?_
  refine lv_aload_n hx hb dJ1_charAt_3b067_1 rfl (lv_at hl 0 rfl) ?_
  refine va_alen (v := nI u.1) hx hb hK.1 hP 0 4 (ft_get' (by decide) rfl) rfl rfl dJ1_charAt_3b067_2 ?_
  refine va_csv (va_Run.run (va_runS (As := [.int (x2), .int (nI u.1)]) (rest := []) ⟨hx, hb, hml, hown, hts⟩ (c_J0_checkIndex_df160 l dC Z A k x2 (nI u.1)  h1 h2) (va_cwS 2 hts gJ1_charAt_3b067_J0_checkIndex_df160 rfl rfl rfl (by decide +kernel) ⟨Nat.le_of_ble_eq_true rfl, Nat.le_of_ble_eq_true rfl⟩) (ft_preSo hE hS (fun _ h => h)) rfl rfl hl.1 rfl (lv_room (Nat.le_of_ble_eq_true rfl)) dJ1_charAt_3b067_3 ⟨Nat.le_of_ble_eq_true rfl, Nat.le_of_ble_eq_true rfl⟩)) (fun _ => ?_)
  refine lv_aload_n hx hb dJ1_charAt_3b067_6 rfl (lv_at hl 0 rfl) ?_
  refine lv_iload_n hx hb dJ1_charAt_3b067_7 rfl (lv_at hl 1 rfl) ?_
  have h_8 : vp_in x2 u.1 := by exact in_cx h1 h2 rfl h3
  refine va_bald hx hb hK.1 hP 0 4 (ft_get' (by decide) rfl) rfl h_8 dJ1_charAt_3b067_8 ?_
  refine lv_sipush (v := 255) hx hb dJ1_charAt_3b067_9 (by decide) ?_
  refine lv_iand hx hb dJ1_charAt_3b067_12 ?_
  refine lv_i2c (v := (((u.2 (tn x2)) &&& 255).toUInt32 % 65536).toInt32) hx hb dJ1_charAt_3b067_13 rfl ?_
  exact W.zret (v := (((u.2 (tn x2)) &&& 255).toUInt32 % 65536).toInt32) hx hb hr (ft_nar_c _) (fun t ht hW => ft_endi (post := fun z : Int32 => z = s_J1_charAt_3b067 u x2) hsp ht) (fun _ h => absurd h List.not_mem_nil) dJ1_charAt_3b067_14

def s_J5_isLatin1_aae02 (u : ft_TB)  : Int32 := 1
set_option maxHeartbeats 4000000 in
set_option maxRecDepth 100000 in
theorem c_J5_isLatin1_aae02 (l : Launch) (dC : va_G) (Z : Nat → Nat → Nat) (A : Nat → Prop) (ad : Nat → Nat) (k : Nat → ClassId) (u : ft_TB)   : Met l yJ5_isLatin1_aae02 wsJ5_isLatin1_aae02 ({ frames := 0, cells := 0, slots := 0, locals := 0 }) (ft_Pe dC k Z A [.ref (ad 0)] (ft_WB ad k u)) (vp_Si (fun z : Int32 => z = s_J5_isLatin1_aae02 u)) 0 0 (fun _ => False) := by
  refine va_MetF (cc := cJ5_isLatin1_aae02) (maxL := 1) (ret := (some .boolean)) (by decide +kernel) rfl ?_
  intro p e s m args below meth c s₁ B hml hv
  obtain ⟨hargs, hP, hE⟩ := hv
  have hK := hE.1
  subst hargs
  have hx := B.exec
  have hb := B.bytes
  have hr := B.returns
  have hts := atoms_spec (ws := wsJ5_isLatin1_aae02) B.pre
  have hown : s.vm.findClass RJ5 = some m.cls := findClass_of_methodNamed B.named
  have hlocks := B.notSynchronized
  have hS : va_S A s.heap s.heap [] := va_S.rf
  have hl := lv_entry ([.ref (ad 0)]) (n := 1) (Nat.le_of_ble_eq_true rfl)
  rw [lg_entry_eq]
  generalize (lg_sl ([.ref (ad 0)]) ++ List.replicate (1 - (lg_sl ([.ref (ad 0)])).length) Slot.unset).toArray = ls at hl ⊢
  have hl : lv_has ls 1 [(0, .ref (ad 0))] := hl
  have hsp := (s_J5_isLatin1_aae02.eq_1 u ).symm
  refine va_gets (C := "java/lang/String") (n := "COMPACT_STRINGS") (d := "Z") hx hb hE.2.2.cs hS hown (hts (.fieldLink RJ5 18 "java/lang/String" "COMPACT_STRINGS" "Z") (by decide +kernel)) (fun _ h9 => h9) dJ5_isLatin1_aae02_0 ?_
  refine lv_if_eq (tgt := 17) hx hb dJ5_isLatin1_aae02_3 (by decide) (fun c_3 => ?_) (fun c_3 => ?_)
  · skip
    first | exact absurd c_3 (by decide) | exact absurd (by decide) c_3
  · skip
    refine lv_aload_n hx hb dJ5_isLatin1_aae02_6 rfl (lv_at hl 0 rfl) ?_
    refine va_get (D := dC) (ci := 1) (v := .int (0)) (C := RJ4) (T := TJ4) (N := 4) hx hb hts (by decide +kernel) hown hK.1 hP 0 (ft_get' (by decide) rfl) rfl 1 (by decide) (hts (.fieldLink RJ5 22 "java/lang/AbstractStringBuilder" "coder" "B") (by decide +kernel)) (fun _ h9 => h9) rfl dJ5_isLatin1_aae02_7 ?_
    refine lv_if_ne (tgt := 17) hx hb dJ5_isLatin1_aae02_10 (by decide) (fun c_10 => ?_) (fun c_10 => ?_)
    · skip
      first | exact absurd c_10 (by decide) | exact absurd (by decide) c_10
    · skip
      refine lv_iconst (v := 1) hx hb dJ5_isLatin1_aae02_13 (by decide) ?_
      refine lv_goto (tgt := 18) hx hb dJ5_isLatin1_aae02_14 (by decide) ?_
      exact W.zret (v := 1) hx hb hr (rfl) (fun t ht hW => ft_endi (post := fun z : Int32 => z = s_J5_isLatin1_aae02 u) hsp ht) (fun _ h => absurd h List.not_mem_nil) dJ5_isLatin1_aae02_18

def s_J5_length_8abf5 (u : ft_TB)  : Int32 := u.2.1
set_option maxHeartbeats 4000000 in
set_option maxRecDepth 100000 in
theorem c_J5_length_8abf5 (l : Launch) (dC : va_G) (ad : Nat → Nat) (k : Nat → ClassId) (u : ft_TB)   : Met l yJ5_length_8abf5 wsJ5_length_8abf5 ({ frames := 0, cells := 0, slots := 0, locals := 0 }) (ft_Pc dC k [.ref (ad 0)] (ft_WB ad k u)) (vp_Si (fun z : Int32 => z = s_J5_length_8abf5 u)) 0 0 (fun _ => False) := by
  refine va_MetF (cc := cJ5_length_8abf5) (maxL := 1) (ret := (some .int)) (by decide +kernel) rfl ?_
  intro p e s m args below meth c s₁ B hml hv
  obtain ⟨hargs, hP, hK⟩ := hv
  subst hargs
  have hx := B.exec
  have hb := B.bytes
  have hr := B.returns
  have hts := atoms_spec (ws := wsJ5_length_8abf5) B.pre
  have hown : s.vm.findClass RJ5 = some m.cls := findClass_of_methodNamed B.named
  have hlocks := B.notSynchronized
  have hl := lv_entry ([.ref (ad 0)]) (n := 1) (Nat.le_of_ble_eq_true rfl)
  rw [lg_entry_eq]
  generalize (lg_sl ([.ref (ad 0)]) ++ List.replicate (1 - (lg_sl ([.ref (ad 0)])).length) Slot.unset).toArray = ls at hl ⊢
  have hl : lv_has ls 1 [(0, .ref (ad 0))] := hl
  have hsp := (s_J5_length_8abf5.eq_1 u ).symm
  refine lv_aload_n hx hb dJ5_length_8abf5_0 rfl (lv_at hl 0 rfl) ?_
  refine va_get (D := dC) (ci := 1) (v := .int (u.2.1)) (C := RJ4) (T := TJ4) (N := 4) hx hb hts (by decide +kernel) hown hK.1 hP 0 (ft_get' (by decide) rfl) rfl 3 (by decide) (hts (.fieldLink RJ5 79 "java/lang/AbstractStringBuilder" "count" "I") (by decide +kernel)) (fun _ h9 => h9) rfl dJ5_length_8abf5_1 ?_
  exact W.iret (v := u.2.1) hx hb hr (fun t ht hW => ft_endi (post := fun z : Int32 => z = s_J5_length_8abf5 u) hsp ht) (fun _ h => absurd h List.not_mem_nil) dJ5_length_8abf5_4

def s_J4_length_8abf5 (u : ft_TB)  : Int32 := (s_J5_length_8abf5 u)
set_option maxHeartbeats 4000000 in
set_option maxRecDepth 100000 in
theorem c_J4_length_8abf5 (l : Launch) (dC : va_G) (ad : Nat → Nat) (k : Nat → ClassId) (u : ft_TB)   : Met l yJ4_length_8abf5 wsJ4_length_8abf5 ({ frames := 1, cells := 0, slots := 0, locals := 20 }) (ft_Pc dC k [.ref (ad 0)] (ft_WB ad k u)) (vp_Si (fun z : Int32 => z = s_J4_length_8abf5 u)) 0 0 (fun _ => False) := by
  refine va_MetF (cc := cJ4_length_8abf5) (maxL := 1) (ret := (some .int)) (by decide +kernel) rfl ?_
  intro p e s m args below meth c s₁ B hml hv
  obtain ⟨hargs, hP, hK⟩ := hv
  subst hargs
  have hx := B.exec
  have hb := B.bytes
  have hr := B.returns
  have hts := atoms_spec (ws := wsJ4_length_8abf5) B.pre
  have hown : s.vm.findClass RJ4 = some m.cls := findClass_of_methodNamed B.named
  have hlocks := B.notSynchronized
  have hl := lv_entry ([.ref (ad 0)]) (n := 1) (Nat.le_of_ble_eq_true rfl)
  rw [lg_entry_eq]
  generalize (lg_sl ([.ref (ad 0)]) ++ List.replicate (1 - (lg_sl ([.ref (ad 0)])).length) Slot.unset).toArray = ls at hl ⊢
  have hl : lv_has ls 1 [(0, .ref (ad 0))] := hl
  have hsp := (s_J4_length_8abf5.eq_1 u ).symm
  refine lv_aload_n hx hb dJ4_length_8abf5_0 rfl (lv_at hl 0 rfl) ?_
  refine vp_callSi (va_Run.run (va_runSU (As := []) (rest := []) (ft_atSB hK) ⟨hx, hb, hml, hown, hts⟩ (c_J5_length_8abf5 l dC ad k u) (va_cwSU 0 hts gJ4_length_8abf5_J5_length_8abf5_s343 rfl rfl rfl (by decide +kernel) ⟨Nat.le_of_ble_eq_true rfl, Nat.le_of_ble_eq_true rfl⟩) (ft_preVc hK hP (ci := 1) rfl (ft_get' (by decide) rfl)) rfl rfl hl.1 rfl (lv_room (Nat.le_of_ble_eq_true rfl)) dJ4_length_8abf5_1 ⟨Nat.le_of_ble_eq_true rfl, Nat.le_of_ble_eq_true rfl⟩)) (fun z hz => ?_)
  subst hz
  exact W.iret (v := (s_J5_length_8abf5 u)) hx hb hr (fun t ht hW => ft_endi (post := fun z : Int32 => z = s_J4_length_8abf5 u) hsp ht) (fun _ h => absurd h List.not_mem_nil) dJ4_length_8abf5_4

def s_J1_canEncode_fc78d (x1 : Int32) : Int32 := if 255 < x1 then (0) else (1)
set_option maxHeartbeats 4000000 in
set_option maxRecDepth 100000 in
theorem c_J1_canEncode_fc78d (l : Launch) (x1 : Int32)  : Met l yJ1_canEncode_fc78d wsJ1_canEncode_fc78d ({ frames := 0, cells := 0, slots := 0, locals := 0 }) (ft_Pn [.int x1]) (vp_Si (fun z : Int32 => z = s_J1_canEncode_fc78d x1)) 0 0 (fun _ => False) := by
  refine va_MetF (cc := cJ1_canEncode_fc78d) (maxL := 1) (ret := (some .boolean)) (by decide +kernel) rfl ?_
  intro p e s m args below meth c s₁ B hml hv
  obtain ⟨hargs, -⟩ := hv
  subst hargs
  have hx := B.exec
  have hb := B.bytes
  have hr := B.returns
  have hts := atoms_spec (ws := wsJ1_canEncode_fc78d) B.pre
  have hown : s.vm.findClass RJ1 = some m.cls := findClass_of_methodNamed B.named
  have hlocks := B.notSynchronized
  have hl := lv_entry ([.int x1]) (n := 1) (Nat.le_of_ble_eq_true rfl)
  rw [lg_entry_eq]
  generalize (lg_sl ([.int x1]) ++ List.replicate (1 - (lg_sl ([.int x1])).length) Slot.unset).toArray = ls at hl ⊢
  have hl : lv_has ls 1 [(0, .int (x1))] := hl
  have hsp := (s_J1_canEncode_fc78d.eq_1  x1).symm
  refine lv_iload_n hx hb dJ1_canEncode_fc78d_0 rfl (lv_at hl 0 rfl) ?_
  refine lv_sipush (v := 255) hx hb dJ1_canEncode_fc78d_1 (by decide) ?_
  refine lv_icmp_gt (tgt := 11) hx hb dJ1_canEncode_fc78d_4 (by decide) (fun c_4 => ?_) (fun c_4 => ?_)
  · replace hsp := (if_pos c_4).symm.trans hsp
    refine lv_iconst (v := 0) hx hb dJ1_canEncode_fc78d_11 (by decide) ?_
    exact W.zret (v := 0) hx hb hr (rfl) (fun t ht hW => ft_endi (post := fun z : Int32 => z = s_J1_canEncode_fc78d x1) hsp ht) (fun _ h => absurd h List.not_mem_nil) dJ1_canEncode_fc78d_12
  · replace hsp := (if_neg c_4).symm.trans hsp
    refine lv_iconst (v := 1) hx hb dJ1_canEncode_fc78d_7 (by decide) ?_
    refine lv_goto (tgt := 12) hx hb dJ1_canEncode_fc78d_8 (by decide) ?_
    exact W.zret (v := 1) hx hb hr (rfl) (fun t ht hW => ft_endi (post := fun z : Int32 => z = s_J1_canEncode_fc78d x1) hsp ht) (fun _ h => absurd h List.not_mem_nil) dJ1_canEncode_fc78d_12

theorem ft_ltle {a b c : Int32} (h1 : a < b) (h2 : b ≤ c) : a < c := by rw [Int32.lt_iff_toInt_lt] at *; rw [Int32.le_iff_toInt_le] at h2; omega
theorem ft_nlt0 {a : Int32} (h : ¬ 0 ≤ a) : a < 0 := by rw [Int32.lt_iff_toInt_lt]; rw [Int32.le_iff_toInt_le] at h; omega
theorem ft_nlt {a b : Int32} (h : a ≤ b) : ¬ b < a := by rw [Int32.lt_iff_toInt_lt]; rw [Int32.le_iff_toInt_le] at h; omega

def s_J5_charAt_5068e (u : ft_TB) (x1 : Int32) : Int32 := (((u.2.2.2 (tn x1)) &&& 255).toUInt32 % 65536).toInt32
set_option maxHeartbeats 4000000 in
set_option maxRecDepth 100000 in
theorem c_J5_charAt_5068e (l : Launch) (dC : va_G) (Z : Nat → Nat → Nat) (A : Nat → Prop) (ad : Nat → Nat) (k : Nat → ClassId) (u : ft_TB) (x1 : Int32)  (h1 : ¬ x1 < 0) (h2 : x1 < u.2.1) (h3 : u.2.2.1 < 2 ^ 31) (h4 : u.2.1 ≤ nI u.2.2.1) : Met l yJ5_charAt_5068e wsJ5_charAt_5068e ({ frames := 2, cells := 0, slots := 0, locals := 43 }) (ft_Pe dC k Z A [.ref (ad 0), .int x1] (ft_WB ad k u)) (vp_Si (fun z : Int32 => z = s_J5_charAt_5068e u x1)) 0 0 (fun _ => False) := by
  refine va_MetF (cc := cJ5_charAt_5068e) (maxL := 5) (ret := (some .char)) (by decide +kernel) rfl ?_
  intro p e s m args below meth c s₁ B hml hv
  obtain ⟨hargs, hP, hE⟩ := hv
  have hK := hE.1
  subst hargs
  have hx := B.exec
  have hb := B.bytes
  have hr := B.returns
  have hts := atoms_spec (ws := wsJ5_charAt_5068e) B.pre
  have hown : s.vm.findClass RJ5 = some m.cls := findClass_of_methodNamed B.named
  have hlocks := B.notSynchronized
  have hS : va_S A s.heap s.heap [] := va_S.rf
  have hl := lv_entry ([.ref (ad 0), .int x1]) (n := 5) (Nat.le_of_ble_eq_true rfl)
  rw [lg_entry_eq]
  generalize (lg_sl ([.ref (ad 0), .int x1]) ++ List.replicate (5 - (lg_sl ([.ref (ad 0), .int x1])).length) Slot.unset).toArray = ls at hl ⊢
  have hl : lv_has ls 5 [(0, .ref (ad 0)), (1, .int (x1))] := hl
  have hsp := (s_J5_charAt_5068e.eq_1 u x1).symm
  refine lv_aload_n hx hb dJ5_charAt_5068e_0 rfl (lv_at hl 0 rfl) ?_
  refine va_get (D := dC) (ci := 1) (v := .int (0)) (C := RJ4) (T := TJ4) (N := 4) hx hb hts (by decide +kernel) hown hK.1 hP 0 (ft_get' (by decide) rfl) rfl 1 (by decide) (hts (.fieldLink RJ5 22 "java/lang/AbstractStringBuilder" "coder" "B") (by decide +kernel)) (fun _ h9 => h9) rfl dJ5_charAt_5068e_1 ?_
  refine lv_istore_n (lv' := [(2, .int (0)), (0, .ref (ad 0)), (1, .int (x1))]) hx hb dJ5_charAt_5068e_4 rfl hl (by decide) rfl (fun ls hl => ?_)
  refine lv_aload_n hx hb dJ5_charAt_5068e_5 rfl (lv_at hl 1 rfl) ?_
  refine va_get (D := dC) (ci := 1) (v := .ref (ad 1)) (C := RJ4) (T := TJ4) (N := 4) hx hb hts (by decide +kernel) hown hK.1 hP 0 (ft_get' (by decide) rfl) rfl 0 (by decide) (hts (.fieldLink RJ5 15 "java/lang/AbstractStringBuilder" "value" "[B") (by decide +kernel)) (fun _ h9 => h9) rfl dJ5_charAt_5068e_6 ?_
  refine lv_astore_n (lv' := [(3, .ref (ad 1)), (2, .int (0)), (0, .ref (ad 0)), (1, .int (x1))]) hx hb dJ5_charAt_5068e_9 rfl hl (by decide) rfl (fun ls hl => ?_)
  refine lv_aload_n hx hb dJ5_charAt_5068e_10 rfl (lv_at hl 2 rfl) ?_
  refine va_get (D := dC) (ci := 1) (v := .int (u.2.1)) (C := RJ4) (T := TJ4) (N := 4) hx hb hts (by decide +kernel) hown hK.1 hP 0 (ft_get' (by decide) rfl) rfl 3 (by decide) (hts (.fieldLink RJ5 79 "java/lang/AbstractStringBuilder" "count" "I") (by decide +kernel)) (fun _ h9 => h9) rfl dJ5_charAt_5068e_11 ?_
  refine lv_aload_n hx hb dJ5_charAt_5068e_14 rfl (lv_at hl 0 rfl) ?_
  refine va_alen (v := nI u.2.2.1) hx hb hK.1 hP 1 4 (ft_get' (by decide) rfl) rfl rfl dJ5_charAt_5068e_15 ?_
  refine lv_iload_n hx hb dJ5_charAt_5068e_16 rfl (lv_at hl 1 rfl) ?_
  refine lv_ishr hx hb dJ5_charAt_5068e_17 ?_
  rw [sb_shr0]
  refine va_mmin hx hb (hml.trans hl.1.symm) hown (hts (.methodLink RJ5 138 Lib.Math.min.name) (by decide +kernel)) (hts (.static Lib.Math.min.name) (by decide +kernel)) (hts (.initialized "java/lang/Math") (by decide +kernel)) (hts (.code Lib.Math.min.name Lib.Math.min.code 2 (some .int)) (by decide +kernel)) (Nat.le_of_ble_eq_true rfl) (Nat.le_of_ble_eq_true rfl) (Nat.le_of_ble_eq_true rfl) (Nat.le_of_ble_eq_true rfl) dJ5_charAt_5068e_18 ?_
  rw [if_neg (ft_nlt h4)]
  refine lv_istore (lv' := [(4, .int (u.2.1)), (3, .ref (ad 1)), (2, .int (0)), (0, .ref (ad 0)), (1, .int (x1))]) hx hb dJ5_charAt_5068e_21 hl (by decide) rfl (fun ls hl => ?_)
  refine lv_iload_n hx hb dJ5_charAt_5068e_23 rfl (lv_at hl 4 rfl) ?_
  refine lv_iload hx hb dJ5_charAt_5068e_24 (lv_at hl 0 rfl) ?_
  refine va_csv (va_Run.run (va_runS (As := [.int (x1), .int (u.2.1)]) (rest := []) ⟨hx, hb, hml, hown, hts⟩ (c_J0_checkIndex_df160 l dC Z A k x1 u.2.1  h1 h2) (va_cwS 2 hts gJ5_charAt_5068e_J0_checkIndex_df160 rfl rfl rfl (by decide +kernel) ⟨Nat.le_of_ble_eq_true rfl, Nat.le_of_ble_eq_true rfl⟩) (ft_preSo hE hS (fun _ h => h)) rfl rfl hl.1 rfl (lv_room (Nat.le_of_ble_eq_true rfl)) dJ5_charAt_5068e_26 ⟨Nat.le_of_ble_eq_true rfl, Nat.le_of_ble_eq_true rfl⟩)) (fun _ => ?_)
  refine lv_iload_n hx hb dJ5_charAt_5068e_29 rfl (lv_at hl 2 rfl) ?_
  refine lv_if_ne (tgt := 42) hx hb dJ5_charAt_5068e_30 (by decide) (fun c_30 => ?_) (fun c_30 => ?_)
  · skip
    first | exact absurd c_30 (by decide) | exact absurd (by decide) c_30
  · skip
    refine lv_aload_n hx hb dJ5_charAt_5068e_33 rfl (lv_at hl 1 rfl) ?_
    refine lv_iload_n hx hb dJ5_charAt_5068e_34 rfl (lv_at hl 4 rfl) ?_
    have h_35 : vp_in x1 u.2.2.1 := by exact in_cx h1 (ft_ltle h2 h4) rfl h3
    refine va_bald hx hb hK.1 hP 1 4 (ft_get' (by decide) rfl) rfl h_35 dJ5_charAt_5068e_35 ?_
    refine lv_sipush (v := 255) hx hb dJ5_charAt_5068e_36 (by decide) ?_
    refine lv_iand hx hb dJ5_charAt_5068e_39 ?_
    refine lv_i2c (v := (((u.2.2.2 (tn x1)) &&& 255).toUInt32 % 65536).toInt32) hx hb dJ5_charAt_5068e_40 rfl ?_
    exact W.zret (v := (((u.2.2.2 (tn x1)) &&& 255).toUInt32 % 65536).toInt32) hx hb hr (ft_nar_c _) (fun t ht hW => ft_endi (post := fun z : Int32 => z = s_J5_charAt_5068e u x1) hsp ht) (fun _ h => absurd h List.not_mem_nil) dJ5_charAt_5068e_41

def s_J4_charAt_5068e (u : ft_TB) (x1 : Int32) : Int32 := (s_J5_charAt_5068e u x1)
set_option maxHeartbeats 4000000 in
set_option maxRecDepth 100000 in
theorem c_J4_charAt_5068e (l : Launch) (dC : va_G) (Z : Nat → Nat → Nat) (A : Nat → Prop) (ad : Nat → Nat) (k : Nat → ClassId) (u : ft_TB) (x1 : Int32)  (h1 : ¬ x1 < 0) (h2 : x1 < u.2.1) (h3 : u.2.2.1 < 2 ^ 31) (h4 : u.2.1 ≤ nI u.2.2.1) : Met l yJ4_charAt_5068e wsJ4_charAt_5068e ({ frames := 3, cells := 0, slots := 0, locals := 67 }) (ft_Pe dC k Z A [.ref (ad 0), .int x1] (ft_WB ad k u)) (vp_Si (fun z : Int32 => z = s_J4_charAt_5068e u x1)) 0 0 (fun _ => False) := by
  refine va_MetF (cc := cJ4_charAt_5068e) (maxL := 2) (ret := (some .char)) (by decide +kernel) rfl ?_
  intro p e s m args below meth c s₁ B hml hv
  obtain ⟨hargs, hP, hE⟩ := hv
  have hK := hE.1
  subst hargs
  have hx := B.exec
  have hb := B.bytes
  have hr := B.returns
  have hts := atoms_spec (ws := wsJ4_charAt_5068e) B.pre
  have hown : s.vm.findClass RJ4 = some m.cls := findClass_of_methodNamed B.named
  have hlocks := B.notSynchronized
  have hS : va_S A s.heap s.heap [] := va_S.rf
  have hl := lv_entry ([.ref (ad 0), .int x1]) (n := 2) (Nat.le_of_ble_eq_true rfl)
  rw [lg_entry_eq]
  generalize (lg_sl ([.ref (ad 0), .int x1]) ++ List.replicate (2 - (lg_sl ([.ref (ad 0), .int x1])).length) Slot.unset).toArray = ls at hl ⊢
  have hl : lv_has ls 2 [(0, .ref (ad 0)), (1, .int (x1))] := hl
  have hsp := (s_J4_charAt_5068e.eq_1 u x1).symm
  refine lv_aload_n hx hb dJ4_charAt_5068e_0 rfl (lv_at hl 0 rfl) ?_
  refine lv_iload_n hx hb dJ4_charAt_5068e_1 rfl (lv_at hl 1 rfl) ?_
  refine vp_callSi (va_Run.run (va_runSU (As := [.int (x1)]) (rest := []) (ft_atSB hK) ⟨hx, hb, hml, hown, hts⟩ (c_J5_charAt_5068e l dC Z A ad k u x1  h1 h2 h3 h4) (va_cwSU 1 hts gJ4_charAt_5068e_J5_charAt_5068e_s329 rfl rfl rfl (by decide +kernel) ⟨Nat.le_of_ble_eq_true rfl, Nat.le_of_ble_eq_true rfl⟩) (ft_preVe hE hS (fun _ h => h) hP (ci := 1) rfl (ft_get' (by decide) rfl)) rfl rfl hl.1 rfl (lv_room (Nat.le_of_ble_eq_true rfl)) dJ4_charAt_5068e_2 ⟨Nat.le_of_ble_eq_true rfl, Nat.le_of_ble_eq_true rfl⟩)) (fun z hz => ?_)
  subst hz
  exact W.zret (v := (s_J5_charAt_5068e u x1)) hx hb hr (by unfold s_J5_charAt_5068e; exact ft_nar_c _) (fun t ht hW => ft_endi (post := fun z : Int32 => z = s_J4_charAt_5068e u x1) hsp ht) (fun _ h => absurd h List.not_mem_nil) dJ4_charAt_5068e_5

set_option maxHeartbeats 4000000 in
set_option maxRecDepth 100000 in
theorem c_J7_rangeCheck_23922 (l : Launch) (x1 : Int32) (x2 : Int32) (x3 : Int32)  (h1 : x2 ≤ x3) (h2 : ¬ x2 < 0) (h3 : x3 ≤ x1) : Met l yJ7_rangeCheck_23922 wsJ7_rangeCheck_23922 ({ frames := 0, cells := 0, slots := 0, locals := 0 }) (ft_Pn [.int x1, .int x2, .int x3]) (va_Sv (fun _ => True)) 0 0 (fun _ => False) := by
  refine va_MetF (cc := cJ7_rangeCheck_23922) (maxL := 3) (ret := none) (by decide +kernel) rfl ?_
  intro p e s m args below meth c s₁ B hml hv
  obtain ⟨hargs, -⟩ := hv
  subst hargs
  have hx := B.exec
  have hb := B.bytes
  have hr := B.returns
  have hts := atoms_spec (ws := wsJ7_rangeCheck_23922) B.pre
  have hown : s.vm.findClass RJ7 = some m.cls := findClass_of_methodNamed B.named
  have hlocks := B.notSynchronized
  have hl := lv_entry ([.int x1, .int x2, .int x3]) (n := 3) (Nat.le_of_ble_eq_true rfl)
  rw [lg_entry_eq]
  generalize (lg_sl ([.int x1, .int x2, .int x3]) ++ List.replicate (3 - (lg_sl ([.int x1, .int x2, .int x3])).length) Slot.unset).toArray = ls at hl ⊢
  have hl : lv_has ls 3 [(0, .int (x1)), (1, .int (x2)), (2, .int (x3))] := hl
  refine lv_iload_n hx hb dJ7_rangeCheck_23922_0 rfl (lv_at hl 1 rfl) ?_
  refine lv_iload_n hx hb dJ7_rangeCheck_23922_1 rfl (lv_at hl 2 rfl) ?_
  refine lv_icmp_le (tgt := 46) hx hb dJ7_rangeCheck_23922_2 (by decide) (fun c_2 => ?_) (fun c_2 => ?_)
  · skip
    refine lv_iload_n hx hb dJ7_rangeCheck_23922_46 rfl (lv_at hl 1 rfl) ?_
    refine lv_if_ge (tgt := 59) hx hb dJ7_rangeCheck_23922_47 (by decide) (fun c_47 => ?_) (fun c_47 => ?_)
    · skip
      refine lv_iload_n hx hb dJ7_rangeCheck_23922_59 rfl (lv_at hl 2 rfl) ?_
      refine lv_iload_n hx hb dJ7_rangeCheck_23922_60 rfl (lv_at hl 0 rfl) ?_
      refine lv_icmp_le (tgt := 73) hx hb dJ7_rangeCheck_23922_61 (by decide) (fun c_61 => ?_) (fun c_61 => ?_)
      · skip
        exact W.vret hx hb hr (fun t ht hW => ⟨rfl, trivial, ht⟩) (fun _ h => absurd h List.not_mem_nil) dJ7_rangeCheck_23922_73
      · skip
        exact absurd h3 c_61
    · skip
      exact absurd (ft_nlt0 c_47) h2
  · skip
    exact absurd h1 c_2

def s_J6_stringSize_0f7a4_L16  (x1 : Int32) (K : Int32 → Int32 → Int32) : Nat → Int32 → Int32 → Int32
  | 0, y2_16, y3_16 => K y2_16 y3_16
  | n + 1, y2_16, y3_16 => if 10 ≤ y3_16 then (K y2_16 y3_16) else (if (-x1) ≤ y2_16 then (s_J6_stringSize_0f7a4_L16 x1 K n (10 * y2_16) (y3_16 + 1)) else (y3_16 + 0))
def s_J6_stringSize_0f7a4 (x1 : Int32) : Int32 := s_J6_stringSize_0f7a4_L16 x1 (fun y2_16 y3_16 => 10 + 0) (tn 10 + 1) (-10) 1
set_option maxHeartbeats 4000000 in
set_option maxRecDepth 100000 in
theorem c_J6_stringSize_0f7a4 (l : Launch) (x1 : Int32)  (h1 : ¬ x1 < 0) : Met l yJ6_stringSize_0f7a4 wsJ6_stringSize_0f7a4 ({ frames := 0, cells := 0, slots := 0, locals := 0 }) (ft_Pn [.int x1]) (vp_Si (fun z : Int32 => z = s_J6_stringSize_0f7a4 x1)) 0 0 (fun _ => False) := by
  refine va_MetF (cc := cJ6_stringSize_0f7a4) (maxL := 4) (ret := (some .int)) (by decide +kernel) rfl ?_
  intro p e s m args below meth c s₁ B hml hv
  obtain ⟨hargs, -⟩ := hv
  subst hargs
  have hx := B.exec
  have hb := B.bytes
  have hr := B.returns
  have hts := atoms_spec (ws := wsJ6_stringSize_0f7a4) B.pre
  have hown : s.vm.findClass RJ6 = some m.cls := findClass_of_methodNamed B.named
  have hlocks := B.notSynchronized
  have hl := lv_entry ([.int x1]) (n := 4) (Nat.le_of_ble_eq_true rfl)
  rw [lg_entry_eq]
  generalize (lg_sl ([.int x1]) ++ List.replicate (4 - (lg_sl ([.int x1])).length) Slot.unset).toArray = ls at hl ⊢
  have hl : lv_has ls 4 [(0, .int (x1))] := hl
  have hsp := (s_J6_stringSize_0f7a4.eq_1  x1).symm
  refine lv_iconst (v := 1) hx hb dJ6_stringSize_0f7a4_0 (by decide) ?_
  refine lv_istore_n (lv' := [(1, .int (1)), (0, .int (x1))]) hx hb dJ6_stringSize_0f7a4_1 rfl hl (by decide) rfl (fun ls hl => ?_)
  refine lv_iload_n hx hb dJ6_stringSize_0f7a4_2 rfl (lv_at hl 1 rfl) ?_
  refine lv_if_lt (tgt := 11) hx hb dJ6_stringSize_0f7a4_3 (by decide) (fun c_3 => ?_) (fun c_3 => ?_)
  · skip
    exact absurd c_3 h1
  · skip
    refine lv_iconst (v := 0) hx hb dJ6_stringSize_0f7a4_6 (by decide) ?_
    refine lv_istore_n (lv' := [(1, .int (0)), (0, .int (x1))]) hx hb dJ6_stringSize_0f7a4_7 rfl hl (by decide) rfl (fun ls hl => ?_)
    refine lv_iload_n hx hb dJ6_stringSize_0f7a4_8 rfl (lv_at hl 1 rfl) ?_
    refine lv_ineg hx hb dJ6_stringSize_0f7a4_9 ?_
    refine lv_istore_n (lv' := [(0, .int (-x1)), (1, .int (0))]) hx hb dJ6_stringSize_0f7a4_10 rfl hl (by decide) rfl (fun ls hl => ?_)
    refine lv_bipush (v := (-10)) hx hb dJ6_stringSize_0f7a4_11 (by decide) ?_
    refine lv_istore_n (lv' := [(2, .int ((-10))), (0, .int (-x1)), (1, .int (0))]) hx hb dJ6_stringSize_0f7a4_13 rfl hl (by decide) rfl (fun ls hl => ?_)
    refine lv_iconst (v := 1) hx hb dJ6_stringSize_0f7a4_14 (by decide) ?_
    refine lv_istore_n (lv' := [(3, .int (1)), (2, .int ((-10))), (0, .int (-x1)), (1, .int (0))]) hx hb dJ6_stringSize_0f7a4_15 rfl hl (by decide) rfl (fun ls hl => ?_)
    have loop_16 : ∀ (K : Int32 → Int32 → Int32) (hKx : ∀ (y2_16 : Int32) (y3_16 : Int32) (i_16 : Nat) (hi_16 : y3_16 = nI i_16) (hm_16 : i_16 ≤ tn 10) (ls : Array Slot) (hl : lv_has ls 4 [(3, .int (y3_16)), (2, .int (y2_16)), (0, .int (-x1)), (1, .int (0))]) (hsp : K y2_16 y3_16 = s_J6_stringSize_0f7a4 x1), W p l e (headSpec wsJ6_stringSize_0f7a4 ({ frames := 0, cells := 0, slots := 0, locals := 0 })).room s m ([.int x1] : List Value).toArray below meth c s.heap [] 0 0 (MQ below (vp_Si (fun z : Int32 => z = s_J6_stringSize_0f7a4 x1)) ([.int x1] : List Value).toArray s 0 0 (fun _ => False)) (F0 m 42 ls [])) (n_16 : Nat), ∀ (y2_16 : Int32) (y3_16 : Int32) (i_16 : Nat) (hi_16 : y3_16 = nI i_16) (hm_16 : i_16 ≤ tn 10) (hn_16 : tn 10 < n_16 + i_16) (ls : Array Slot) (hl : lv_has ls 4 [(3, .int (y3_16)), (2, .int (y2_16)), (0, .int (-x1)), (1, .int (0))]) (hsp : s_J6_stringSize_0f7a4_L16 x1 K n_16 y2_16 y3_16 = s_J6_stringSize_0f7a4 x1), W p l e (headSpec wsJ6_stringSize_0f7a4 ({ frames := 0, cells := 0, slots := 0, locals := 0 })).room s m ([.int x1] : List Value).toArray below meth c s.heap [] 0 0 (MQ below (vp_Si (fun z : Int32 => z = s_J6_stringSize_0f7a4 x1)) ([.int x1] : List Value).toArray s 0 0 (fun _ => False)) (F0 m 16 ls []) := by
      intro K hKx n_16
      induction n_16 with
      | zero => intro y2_16 y3_16 i_16 hi_16 hm_16 hn_16; exact absurd hn_16 (by omega)
      | succ n ih_16 =>
        intro y2_16 y3_16 i_16 hi_16 hm_16 hn_16 ls hl hsp
        rw [s_J6_stringSize_0f7a4_L16] at hsp
        refine lv_iload_n hx hb dJ6_stringSize_0f7a4_16 rfl (lv_at hl 0 rfl) ?_
        refine lv_bipush (v := 10) hx hb dJ6_stringSize_0f7a4_17 (by decide) ?_
        refine lv_icmp_ge (tgt := 42) hx hb dJ6_stringSize_0f7a4_19 (by decide) (fun c_19 => ?_) (fun c_19 => ?_)
        · replace hsp := (if_pos c_19).symm.trans hsp
          exact hKx y2_16 y3_16 i_16 hi_16 hm_16 ls (lv_sub hl [0, 1, 2, 3] rfl) hsp
        · replace hsp := (if_neg c_19).symm.trans hsp
          have hlt_16 := ft_step hi_16 hm_16 c_19
          refine lv_iload_n hx hb dJ6_stringSize_0f7a4_22 rfl (lv_at hl 2 rfl) ?_
          refine lv_iload_n hx hb dJ6_stringSize_0f7a4_23 rfl (lv_at hl 1 rfl) ?_
          refine lv_icmp_le (tgt := 31) hx hb dJ6_stringSize_0f7a4_24 (by decide) (fun c_24 => ?_) (fun c_24 => ?_)
          · replace hsp := (if_pos c_24).symm.trans hsp
            refine lv_bipush (v := 10) hx hb dJ6_stringSize_0f7a4_31 (by decide) ?_
            refine lv_iload_n hx hb dJ6_stringSize_0f7a4_33 rfl (lv_at hl 1 rfl) ?_
            refine lv_imul hx hb dJ6_stringSize_0f7a4_34 ?_
            refine lv_istore_n (lv' := [(2, .int (10 * y2_16)), (3, .int (y3_16)), (0, .int (-x1)), (1, .int (0))]) hx hb dJ6_stringSize_0f7a4_35 rfl hl (by decide) rfl (fun ls hl => ?_)
            refine lv_iinc (v := y3_16 + 1) (lv' := [(3, .int (y3_16 + 1)), (2, .int (10 * y2_16)), (0, .int (-x1)), (1, .int (0))]) hx hb dJ6_stringSize_0f7a4_36 hl (k := 1) rfl rfl (by decide) rfl (fun ls hl => ?_)
            refine lv_goto (tgt := 16) hx hb dJ6_stringSize_0f7a4_39 (by decide) ?_
            exact ih_16 (10 * y2_16) (y3_16 + 1) (i_16 + 1) (by rw [hi_16, nI_1]) hlt_16 (by omega) ls (lv_sub hl [0, 1, 2, 3] rfl) hsp
          · replace hsp := (if_neg c_24).symm.trans hsp
            refine lv_iload_n hx hb dJ6_stringSize_0f7a4_27 rfl (lv_at hl 0 rfl) ?_
            refine lv_iload_n hx hb dJ6_stringSize_0f7a4_28 rfl (lv_at hl 3 rfl) ?_
            refine lv_iadd hx hb dJ6_stringSize_0f7a4_29 ?_
            exact W.iret (v := y3_16 + 0) hx hb hr (fun t ht hW => ft_endi (post := fun z : Int32 => z = s_J6_stringSize_0f7a4 x1) hsp ht) (fun _ h => absurd h List.not_mem_nil) dJ6_stringSize_0f7a4_30
    refine loop_16 _ (fun y2_16 y3_16 i_16 hi_16 hm_16 ls hl hsp => ?_) (tn 10 + 1) (-10) 1 1 rfl (by decide) (by omega) ls (lv_sub hl [0, 1, 2, 3] rfl) hsp
    refine lv_bipush (v := 10) hx hb dJ6_stringSize_0f7a4_42 (by decide) ?_
    refine lv_iload_n hx hb dJ6_stringSize_0f7a4_44 rfl (lv_at hl 3 rfl) ?_
    refine lv_iadd hx hb dJ6_stringSize_0f7a4_45 ?_
    exact W.iret (v := 10 + 0) hx hb hr (fun t ht hW => ft_endi (post := fun z : Int32 => z = s_J6_stringSize_0f7a4 x1) hsp ht) (fun _ h => absurd h List.not_mem_nil) dJ6_stringSize_0f7a4_46

theorem ft_B_p2 {ad : Nat → Nat} {k : Nat → ClassId} {a b v : Int32} {m : Nat} {f : Nat → Int32} : (ft_WB ad k (a, b, m, f)).set 0 (ad 0, .inr (1, [.ref (ad 1), .int 0, .int v, .int b])) = ft_WB ad k (v, b, m, f) := by
  refine ft_set' (fun j hj => ?_)
  match j, hj with
  | 0, _ => rw [va_up_self]; rfl
  | 1, _ => rw [va_up_ne _ _ (by decide)]; rfl
theorem ft_B_p3 {ad : Nat → Nat} {k : Nat → ClassId} {a b v : Int32} {m : Nat} {f : Nat → Int32} : (ft_WB ad k (a, b, m, f)).set 0 (ad 0, .inr (1, [.ref (ad 1), .int 0, .int a, .int v])) = ft_WB ad k (a, v, m, f) := by
  refine ft_set' (fun j hj => ?_)
  match j, hj with
  | 0, _ => rw [va_up_self]; rfl
  | 1, _ => rw [va_up_ne _ _ (by decide)]; rfl
theorem ft_B_s {ad : Nat → Nat} {k : Nat → ClassId} {a b : Int32} {m : Nat} {f : Nat → Int32} {i : Nat} {v : Int32} : (ft_WB ad k (a, b, m, f)).set 1 (ad 1, .inl (k 4, m, .inl (upd f i v))) = ft_WB ad k (a, b, m, va_up f i v) := by
  refine ft_set' (fun j hj => ?_)
  match j, hj with
  | 0, _ => rw [va_up_ne _ _ (by decide)]; rfl
  | 1, _ =>
    rw [va_up_self]
    refine congrArg (fun g => (.inl (k 4, m, .inl g) : va_E)) (funext fun x => ?_)
    show upd f i v x = va_up f i v x
    by_cases hx : x = i
    · subst hx; rw [va_up_self]; simp [upd]
    · rw [va_up_ne _ _ hx]; simp [upd, hx]
theorem ft_cap {q n m : Nat} {x : Int32} (hx : x = nI q) (h : q ≤ m) (hm : m ≤ 65536) : ¬ 0 < x - nI m := by
  subst hx
  rw [Int32.lt_iff_toInt_lt, pk_sub_toInt (by omega) (by omega), Int32.toInt_zero]
  omega
theorem ft_le0 {a : Int32} (h : ¬ 0 < a) : a ≤ 0 := by rw [Int32.lt_iff_toInt_lt] at h; rw [Int32.le_iff_toInt_le]; omega
theorem ft_zle {x : Int32} (h : x = 0) : 0 ≤ x := by rw [h]; decide
theorem ft_zle2 {x y : Int32} {n : Nat} (h : x = 0) (hy : y = nI n) (hn : n < 2 ^ 31) : x ≤ y := by rw [h, hy]; exact nI_pos' hn
theorem ft_cap1 {n m : Nat} {x : Int32} (hx : x = nI n) (h : n < m) (hm : m ≤ 65536) : ¬ 0 < (x + 1) - nI m := ft_cap (n := 0) (by rw [hx, nI_1]) h hm
theorem ft_cin {n m : Nat} {x : Int32} (hx : x = nI n) (h : n < m) (hm : m ≤ 65536) : vp_in x m := by subst hx; exact vp_in_nI h (by omega)

set_option maxHeartbeats 4000000 in
set_option maxRecDepth 100000 in
theorem c_J5_ensureCapacityInternal_d00df_o (l : Launch) (dC : va_G) (ad : Nat → Nat) (k : Nat → ClassId) (u : ft_TB) (x1 : Int32)  (h1 : ¬ 0 < x1 - nI u.2.2.1) : Met l yJ5_ensureCapacityInternal_d00df wsJ5_ensureCapacityInternal_d00df ({ frames := 0, cells := 0, slots := 0, locals := 0 }) (ft_Pc dC k [.ref (ad 0), .int x1] (ft_WB ad k u)) (va_Sv (fun _ => True)) 0 0 (fun _ => False) := by
  refine va_MetF (cc := cJ5_ensureCapacityInternal_d00df) (maxL := 3) (ret := none) (by decide +kernel) rfl ?_
  intro p e s m args below meth c s₁ B hml hv
  obtain ⟨hargs, hP, hK⟩ := hv
  subst hargs
  have hx := B.exec
  have hb := B.bytes
  have hr := B.returns
  have hts := atoms_spec (ws := wsJ5_ensureCapacityInternal_d00df) B.pre
  have hown : s.vm.findClass RJ5 = some m.cls := findClass_of_methodNamed B.named
  have hlocks := B.notSynchronized
  have hl := lv_entry ([.ref (ad 0), .int x1]) (n := 3) (Nat.le_of_ble_eq_true rfl)
  rw [lg_entry_eq]
  generalize (lg_sl ([.ref (ad 0), .int x1]) ++ List.replicate (3 - (lg_sl ([.ref (ad 0), .int x1])).length) Slot.unset).toArray = ls at hl ⊢
  have hl : lv_has ls 3 [(0, .ref (ad 0)), (1, .int (x1))] := hl
  refine lv_aload_n hx hb dJ5_ensureCapacityInternal_d00df_0 rfl (lv_at hl 0 rfl) ?_
  refine va_get (D := dC) (ci := 1) (v := .ref (ad 1)) (C := RJ4) (T := TJ4) (N := 4) hx hb hts (by decide +kernel) hown hK.1 hP 0 (ft_get' (by decide) rfl) rfl 0 (by decide) (hts (.fieldLink RJ5 15 "java/lang/AbstractStringBuilder" "value" "[B") (by decide +kernel)) (fun _ h9 => h9) rfl dJ5_ensureCapacityInternal_d00df_1 ?_
  refine va_alen (v := nI u.2.2.1) hx hb hK.1 hP 1 4 (ft_get' (by decide) rfl) rfl rfl dJ5_ensureCapacityInternal_d00df_4 ?_
  refine lv_aload_n hx hb dJ5_ensureCapacityInternal_d00df_5 rfl (lv_at hl 0 rfl) ?_
  refine va_get (D := dC) (ci := 1) (v := .int (0)) (C := RJ4) (T := TJ4) (N := 4) hx hb hts (by decide +kernel) hown hK.1 hP 0 (ft_get' (by decide) rfl) rfl 1 (by decide) (hts (.fieldLink RJ5 22 "java/lang/AbstractStringBuilder" "coder" "B") (by decide +kernel)) (fun _ h9 => h9) rfl dJ5_ensureCapacityInternal_d00df_6 ?_
  refine lv_ishr hx hb dJ5_ensureCapacityInternal_d00df_9 ?_
  rw [sb_shr0]
  refine lv_istore_n (lv' := [(2, .int (nI u.2.2.1)), (0, .ref (ad 0)), (1, .int (x1))]) hx hb dJ5_ensureCapacityInternal_d00df_10 rfl hl (by decide) rfl (fun ls hl => ?_)
  refine lv_iload_n hx hb dJ5_ensureCapacityInternal_d00df_11 rfl (lv_at hl 2 rfl) ?_
  refine lv_iload_n hx hb dJ5_ensureCapacityInternal_d00df_12 rfl (lv_at hl 0 rfl) ?_
  refine lv_isub hx hb dJ5_ensureCapacityInternal_d00df_13 ?_
  refine lv_if_le (tgt := 38) hx hb dJ5_ensureCapacityInternal_d00df_14 (by decide) (fun c_14 => ?_) (fun c_14 => ?_)
  · skip
    exact W.vret hx hb hr (fun t ht hW => ⟨rfl, trivial, ht⟩) (fun _ h => absurd h List.not_mem_nil) dJ5_ensureCapacityInternal_d00df_38
  · skip
    exact absurd (ft_le0 h1) c_14

def s_J5_append_3fe6f_o (u : ft_TB) (x1 : Int32) : ft_TB := (u.1, (u.2.1 + 1), u.2.2.1, va_up u.2.2.2 (tn u.2.1) (ft_b8 x1.toInt8.toInt32))
set_option maxHeartbeats 4000000 in
set_option maxRecDepth 100000 in
theorem c_J5_append_3fe6f_o (l : Launch) (dC : va_G) (Z : Nat → Nat → Nat) (ad : Nat → Nat) (k : Nat → ClassId) (u : ft_TB) (x1 : Int32)  (n : Nat) (h1 : u.2.1 = nI n) (h2 : n < u.2.2.1) (h3 : u.2.2.1 ≤ 65536) (h4 : ¬ 255 < x1) : Met l yJ5_append_3fe6f wsJ5_append_3fe6f ({ frames := 1, cells := 0, slots := 0, locals := 22 }) (ft_Pf dC k Z (ft_A 2 ad) [.ref (ad 0), .int x1] (ft_WB ad k u)) (va_Qr (fun v : ft_TB => v = s_J5_append_3fe6f_o u x1) (fun v a t => a = ad 0 ∧ va_P dC vwCl (ft_WB ad k v) t.heap) (ft_A 2 ad)) 0 0 (ft_A 2 ad) := by
  refine va_MetF (cc := cJ5_append_3fe6f) (maxL := 2) (ret := (some (.object "java/lang/AbstractStringBuilder"))) (by decide +kernel) rfl ?_
  intro p e s m args below meth c s₁ B hml hv
  obtain ⟨hargs, hP, hE, hD0⟩ := hv
  have hK := hE.1
  subst hargs
  have hx := B.exec
  have hb := B.bytes
  have hr := B.returns
  have hts := atoms_spec (ws := wsJ5_append_3fe6f) B.pre
  have hown : s.vm.findClass RJ5 = some m.cls := findClass_of_methodNamed B.named
  have hlocks := B.notSynchronized
  have hD := ft_D_self hD0
  have hP : va_P dC vwCl (ft_WB ad k (u.1, u.2.1, u.2.2.1, u.2.2.2)) s.heap := hP
  have hD : va_D (ft_A 2 ad) (ft_WB ad k (u.1, u.2.1, u.2.2.1, u.2.2.2)) := hD
  have hS : va_S (ft_A 2 ad) s.heap s.heap [] := va_S.rf
  have hl := lv_entry ([.ref (ad 0), .int x1]) (n := 2) (Nat.le_of_ble_eq_true rfl)
  rw [lg_entry_eq]
  generalize (lg_sl ([.ref (ad 0), .int x1]) ++ List.replicate (2 - (lg_sl ([.ref (ad 0), .int x1])).length) Slot.unset).toArray = ls at hl ⊢
  have hl : lv_has ls 2 [(0, .ref (ad 0)), (1, .int (x1))] := hl
  have hsp := (s_J5_append_3fe6f_o.eq_1 u x1).symm
  refine lv_aload_n hx hb dJ5_append_3fe6f_0 rfl (lv_at hl 0 rfl) ?_
  refine lv_aload_n hx hb dJ5_append_3fe6f_1 rfl (lv_at hl 0 rfl) ?_
  refine va_get (D := dC) (ci := 1) (v := .int (u.2.1)) (C := RJ4) (T := TJ4) (N := 4) hx hb hts (by decide +kernel) hown hK.1 hP 0 (ft_get' (by decide) rfl) rfl 3 (by decide) (hts (.fieldLink RJ5 79 "java/lang/AbstractStringBuilder" "count" "I") (by decide +kernel)) (fun _ h9 => h9) rfl dJ5_append_3fe6f_2 ?_
  refine lv_iconst (v := 1) hx hb dJ5_append_3fe6f_5 (by decide) ?_
  refine lv_iadd hx hb dJ5_append_3fe6f_6 ?_
  refine va_csv (va_Run.run (va_runU (As := [.int (u.2.1 + 1)]) (rest := []) ⟨hx, hb, hml, hown, hts⟩ (c_J5_ensureCapacityInternal_d00df_o l dC ad k (u.1, u.2.1, u.2.2.1, u.2.2.2) (u.2.1 + 1)  (ft_cap1 h1 h2 h3)) (va_cwU 1 hts gJ5_append_3fe6f_J5_ensureCapacityInternal_d00df_u100J4 rfl rfl rfl rfl (by decide +kernel) ⟨Nat.le_of_ble_eq_true rfl, Nat.le_of_ble_eq_true rfl⟩) (ft_preVc hK hP (ci := 1) rfl (ft_get' (by decide) rfl)) rfl rfl hl.1 rfl (lv_room (Nat.le_of_ble_eq_true rfl)) dJ5_append_3fe6f_7 ⟨Nat.le_of_ble_eq_true rfl, Nat.le_of_ble_eq_true rfl⟩)) (fun _ => ?_)
  refine lv_aload_n hx hb dJ5_append_3fe6f_10 rfl (lv_at hl 0 rfl) ?_
  refine vp_callSi (va_Run.run (va_runU (As := []) (rest := []) ⟨hx, hb, hml, hown, hts⟩ (c_J5_isLatin1_aae02 l dC Z (ft_A 2 ad) ad k (u.1, u.2.1, u.2.2.1, u.2.2.2)) (va_cwU 0 hts gJ5_append_3fe6f_J5_isLatin1_aae02_u83J4 rfl rfl rfl rfl (by decide +kernel) ⟨Nat.le_of_ble_eq_true rfl, Nat.le_of_ble_eq_true rfl⟩) (ft_preVe hE hS (fun _ h => h) hP (ci := 1) rfl (ft_get' (by decide) rfl)) rfl rfl hl.1 rfl (lv_room (Nat.le_of_ble_eq_true rfl)) dJ5_append_3fe6f_11 ⟨Nat.le_of_ble_eq_true rfl, Nat.le_of_ble_eq_true rfl⟩)) (fun z hz => ?_)
  subst hz
  rw [show (s_J5_isLatin1_aae02 (u.1, u.2.1, u.2.2.1, u.2.2.2)) = 1 from rfl]
  refine lv_if_eq (tgt := 45) hx hb dJ5_append_3fe6f_14 (by decide) (fun c_14 => ?_) (fun c_14 => ?_)
  · skip
    first | exact absurd c_14 (by decide) | exact absurd (by decide) c_14
  · skip
    refine lv_iload_n hx hb dJ5_append_3fe6f_17 rfl (lv_at hl 1 rfl) ?_
    refine vp_callSi (va_Run.run (va_runS (As := [.int (x1)]) (rest := []) ⟨hx, hb, hml, hown, hts⟩ (c_J1_canEncode_fc78d l x1) (va_cwS 1 hts gJ5_append_3fe6f_J1_canEncode_fc78d rfl rfl rfl (by decide +kernel) ⟨Nat.le_of_ble_eq_true rfl, Nat.le_of_ble_eq_true rfl⟩) ft_preSn rfl rfl hl.1 rfl (lv_room (Nat.le_of_ble_eq_true rfl)) dJ5_append_3fe6f_18 ⟨Nat.le_of_ble_eq_true rfl, Nat.le_of_ble_eq_true rfl⟩)) (fun z hz => ?_)
    subst hz
    rw [show s_J1_canEncode_fc78d x1 = 1 from if_neg h4]
    refine lv_if_eq (tgt := 45) hx hb dJ5_append_3fe6f_21 (by decide) (fun c_21 => ?_) (fun c_21 => ?_)
    · skip
      first | exact absurd c_21 (by decide) | exact absurd (by decide) c_21
    · skip
      refine lv_aload_n hx hb dJ5_append_3fe6f_24 rfl (lv_at hl 0 rfl) ?_
      refine va_get (D := dC) (ci := 1) (v := .ref (ad 1)) (C := RJ4) (T := TJ4) (N := 4) hx hb hts (by decide +kernel) hown hK.1 hP 0 (ft_get' (by decide) rfl) rfl 0 (by decide) (hts (.fieldLink RJ5 15 "java/lang/AbstractStringBuilder" "value" "[B") (by decide +kernel)) (fun _ h9 => h9) rfl dJ5_append_3fe6f_25 ?_
      refine lv_aload_n hx hb dJ5_append_3fe6f_28 rfl (lv_at hl 0 rfl) ?_
      refine lv_dup hx hb dJ5_append_3fe6f_29 rfl ?_
      refine va_get (D := dC) (ci := 1) (v := .int (u.2.1)) (C := RJ4) (T := TJ4) (N := 4) hx hb hts (by decide +kernel) hown hK.1 hP 0 (ft_get' (by decide) rfl) rfl 3 (by decide) (hts (.fieldLink RJ5 79 "java/lang/AbstractStringBuilder" "count" "I") (by decide +kernel)) (fun _ h9 => h9) rfl dJ5_append_3fe6f_30 ?_
      refine lv_dup_x1 hx hb dJ5_append_3fe6f_33 rfl rfl ?_
      refine lv_iconst (v := 1) hx hb dJ5_append_3fe6f_34 (by decide) ?_
      refine lv_iadd hx hb dJ5_append_3fe6f_35 ?_
      refine va_put (D := dC) (ci := 1) (v := .int (u.2.1 + 1)) (ty := .int) (C := RJ4) (T := TJ4) (N := 4) hx hb hts (by decide +kernel) tyJ4 tyJ4_ok nmJ4 hown hK.1 hP hD hS 0 (ft_get' (by decide) rfl) rfl 3 (by decide) (hts (.fieldLink RJ5 79 "java/lang/AbstractStringBuilder" "count" "I") (by decide +kernel)) (fun _ h9 => h9) rfl (by decide +kernel) rfl rfl (Nat.le_of_ble_eq_true rfl) dJ5_append_3fe6f_36 (fun H locs hP hD hS => ?_)
      have hP := ft_cast hP (ft_B_p3 (ad := ad) (k := k))
      have hD := ft_castD hD (ft_B_p3 (ad := ad) (k := k))
      have hP : va_P dC vwCl (ft_WB ad k (u.1, (u.2.1 + 1), u.2.2.1, u.2.2.2)) H := hP
      have hD : va_D (ft_A 2 ad) (ft_WB ad k (u.1, (u.2.1 + 1), u.2.2.1, u.2.2.2)) := hD
      refine lv_iload_n hx hb dJ5_append_3fe6f_39 rfl (lv_at hl 1 rfl) ?_
      refine lv_i2b (v := x1.toInt8.toInt32) hx hb dJ5_append_3fe6f_40 rfl ?_
      have h_41 : vp_in u.2.1 u.2.2.1 := by exact ft_cin h1 h2 h3
      refine va_bast hx hb hK.1 hP hD hS 1 4 (ft_get' (by decide) rfl) rfl h_41 dJ5_append_3fe6f_41 (fun H locs hP hD hS => ?_)
      have hP := ft_cast hP (ft_B_s (k := k) (ad := ad))
      have hD := ft_castD hD (ft_B_s (k := k) (ad := ad))
      have hP : va_P dC vwCl (ft_WB ad k (u.1, (u.2.1 + 1), u.2.2.1, va_up u.2.2.2 (tn u.2.1) (ft_b8 x1.toInt8.toInt32))) H := hP
      have hD : va_D (ft_A 2 ad) (ft_WB ad k (u.1, (u.2.1 + 1), u.2.2.1, va_up u.2.2.2 (tn u.2.1) (ft_b8 x1.toInt8.toInt32))) := hD
      refine lv_goto (tgt := 75) hx hb dJ5_append_3fe6f_42 (by decide) ?_
      refine lv_aload_n hx hb dJ5_append_3fe6f_75 rfl (lv_at hl 0 rfl) ?_
      exact W.aret (v := .ref (ad 0)) hx hb hr (Or.inl ⟨_, rfl⟩) (Or.inr ⟨_, rfl⟩) (fun t ht hW => ⟨⟨(u.1, (u.2.1 + 1), u.2.2.1, va_up u.2.2.2 (tn u.2.1) (ft_b8 x1.toInt8.toInt32)), ad 0, rfl, hsp, rfl, ft_heap ht hP⟩, hS.F ht⟩) hS.2.2 dJ5_append_3fe6f_76

def s_J4_append_cf468_o (u : ft_TB) (x1 : Int32) : ft_TB := ((s_J5_append_3fe6f_o (u.1, u.2.1, u.2.2.1, u.2.2.2) x1).1, (s_J5_append_3fe6f_o (u.1, u.2.1, u.2.2.1, u.2.2.2) x1).2.1, (s_J5_append_3fe6f_o (u.1, u.2.1, u.2.2.1, u.2.2.2) x1).2.2.1, (s_J5_append_3fe6f_o (u.1, u.2.1, u.2.2.1, u.2.2.2) x1).2.2.2)
set_option maxHeartbeats 4000000 in
set_option maxRecDepth 100000 in
theorem c_J4_append_cf468_o (l : Launch) (dC : va_G) (Z : Nat → Nat → Nat) (ad : Nat → Nat) (k : Nat → ClassId) (u : ft_TB) (x1 : Int32)  (n : Nat) (h1 : u.2.1 = nI n) (h2 : n < u.2.2.1) (h3 : u.2.2.1 ≤ 65536) (h4 : ¬ 255 < x1) : Met l yJ4_append_cf468 wsJ4_append_cf468 ({ frames := 2, cells := 0, slots := 0, locals := 43 }) (ft_Pf dC k Z (ft_A 2 ad) [.ref (ad 0), .int x1] (ft_WB ad k u)) (va_Qr (fun v : ft_TB => v = s_J4_append_cf468_o u x1) (fun v a t => a = ad 0 ∧ va_P dC vwCl (ft_WB ad k v) t.heap) (ft_A 2 ad)) 0 0 (ft_A 2 ad) := by
  refine va_MetF (cc := cJ4_append_cf468) (maxL := 2) (ret := (some (.object "java/lang/StringBuilder"))) (by decide +kernel) rfl ?_
  intro p e s m args below meth c s₁ B hml hv
  obtain ⟨hargs, hP, hE, hD0⟩ := hv
  have hK := hE.1
  subst hargs
  have hx := B.exec
  have hb := B.bytes
  have hr := B.returns
  have hts := atoms_spec (ws := wsJ4_append_cf468) B.pre
  have hown : s.vm.findClass RJ4 = some m.cls := findClass_of_methodNamed B.named
  have hlocks := B.notSynchronized
  have hD := ft_D_self hD0
  have hP : va_P dC vwCl (ft_WB ad k (u.1, u.2.1, u.2.2.1, u.2.2.2)) s.heap := hP
  have hD : va_D (ft_A 2 ad) (ft_WB ad k (u.1, u.2.1, u.2.2.1, u.2.2.2)) := hD
  have hS : va_S (ft_A 2 ad) s.heap s.heap [] := va_S.rf
  have hl := lv_entry ([.ref (ad 0), .int x1]) (n := 2) (Nat.le_of_ble_eq_true rfl)
  rw [lg_entry_eq]
  generalize (lg_sl ([.ref (ad 0), .int x1]) ++ List.replicate (2 - (lg_sl ([.ref (ad 0), .int x1])).length) Slot.unset).toArray = ls at hl ⊢
  have hl : lv_has ls 2 [(0, .ref (ad 0)), (1, .int (x1))] := hl
  have hsp := (s_J4_append_cf468_o.eq_1 u x1).symm
  refine lv_aload_n hx hb dJ4_append_cf468_0 rfl (lv_at hl 0 rfl) ?_
  refine lv_iload_n hx hb dJ4_append_cf468_1 rfl (lv_at hl 1 rfl) ?_
  refine va_callr (va_runSU (As := [.int (x1)]) (rest := []) (ft_atSB hK) ⟨hx, hb, hml, hown, hts⟩ (c_J5_append_3fe6f_o l dC Z ad k (u.1, u.2.1, u.2.2.1, u.2.2.2) x1  n h1 h2 h3 h4) (va_cwSU 1 hts gJ4_append_cf468_J5_append_3fe6f_s50 rfl rfl rfl (by decide +kernel) ⟨Nat.le_of_ble_eq_true rfl, Nat.le_of_ble_eq_true rfl⟩) (ft_preVf hE hS (fun _ h => h) hP hD (ci := 1) rfl (ft_get' (by decide) rfl)) rfl rfl hl.1 rfl (lv_room (Nat.le_of_ble_eq_true rfl)) dJ4_append_cf468_2 ⟨Nat.le_of_ble_eq_true rfl, Nat.le_of_ble_eq_true rfl⟩) hS (fun z9 _ h => h) (fun z9 h => h) (fun u9 ra t H1 locs ht hvm hw hB hz1 hk1 hS => ?_)
  subst hw
  obtain ⟨rfl, hB⟩ := hB
  rw [ht] at hB
  have hP : va_P dC vwCl (ft_WB ad k ((s_J5_append_3fe6f_o (u.1, u.2.1, u.2.2.1, u.2.2.2) x1).1, (s_J5_append_3fe6f_o (u.1, u.2.1, u.2.2.1, u.2.2.2) x1).2.1, (s_J5_append_3fe6f_o (u.1, u.2.1, u.2.2.1, u.2.2.2) x1).2.2.1, (s_J5_append_3fe6f_o (u.1, u.2.1, u.2.2.1, u.2.2.2) x1).2.2.2)) H1 := hB
  have hD : va_D (ft_A 2 ad) (ft_WB ad k ((s_J5_append_3fe6f_o (u.1, u.2.1, u.2.2.1, u.2.2.2) x1).1, (s_J5_append_3fe6f_o (u.1, u.2.1, u.2.2.1, u.2.2.2) x1).2.1, (s_J5_append_3fe6f_o (u.1, u.2.1, u.2.2.1, u.2.2.2) x1).2.2.1, (s_J5_append_3fe6f_o (u.1, u.2.1, u.2.2.1, u.2.2.2) x1).2.2.2)) := ft_D_va hD _
  generalize H1 = H at hP hS ⊢
  refine lv_pop hx hb dJ4_append_cf468_5 rfl ?_
  refine lv_aload_n hx hb dJ4_append_cf468_6 rfl (lv_at hl 0 rfl) ?_
  exact W.aret (v := .ref (ad 0)) hx hb hr (Or.inl ⟨_, rfl⟩) (Or.inr ⟨_, rfl⟩) (fun t ht hW => ⟨⟨((s_J5_append_3fe6f_o (u.1, u.2.1, u.2.2.1, u.2.2.2) x1).1, (s_J5_append_3fe6f_o (u.1, u.2.1, u.2.2.1, u.2.2.2) x1).2.1, (s_J5_append_3fe6f_o (u.1, u.2.1, u.2.2.1, u.2.2.2) x1).2.2.1, (s_J5_append_3fe6f_o (u.1, u.2.1, u.2.2.1, u.2.2.2) x1).2.2.2), ad 0, rfl, hsp, rfl, ft_heap ht hP⟩, hS.F ht⟩) hS.2.2 dJ4_append_cf468_7

def s_J5_setLength_d00df_0 (u : ft_TB) (x1 : Int32) : ft_TB := if u.2.1 ≤ x1 then ((u.1, x1, u.2.2.1, u.2.2.2)) else ((1, x1, u.2.2.1, u.2.2.2))
set_option maxHeartbeats 4000000 in
set_option maxRecDepth 100000 in
theorem c_J5_setLength_d00df_0 (l : Launch) (dC : va_G) (ad : Nat → Nat) (k : Nat → ClassId) (u : ft_TB) (x1 : Int32)  (n : Nat) (h1 : x1 = 0) (h2 : u.2.1 = nI n) (h3 : n < 2 ^ 31) (h4 : u.2.2.1 ≤ 65536) : Met l yJ5_setLength_d00df wsJ5_setLength_d00df ({ frames := 1, cells := 0, slots := 0, locals := 22 }) (ft_Pd dC k [.ref (ad 0), .int x1] (ft_WB ad k u)) (va_Qv (fun v : ft_TB => v = s_J5_setLength_d00df_0 u x1) (fun v t => va_P dC vwCl (ft_WB ad k v) t.heap) (ft_A 2 ad)) 0 0 (ft_A 2 ad) := by
  refine va_MetF (cc := cJ5_setLength_d00df) (maxL := 2) (ret := none) (by decide +kernel) rfl ?_
  intro p e s m args below meth c s₁ B hml hv
  obtain ⟨hargs, hP, hK, hD0⟩ := hv
  subst hargs
  have hx := B.exec
  have hb := B.bytes
  have hr := B.returns
  have hts := atoms_spec (ws := wsJ5_setLength_d00df) B.pre
  have hown : s.vm.findClass RJ5 = some m.cls := findClass_of_methodNamed B.named
  have hlocks := B.notSynchronized
  have hD := ft_D_self hD0
  have hP : va_P dC vwCl (ft_WB ad k (u.1, u.2.1, u.2.2.1, u.2.2.2)) s.heap := hP
  have hD : va_D (ft_A 2 ad) (ft_WB ad k (u.1, u.2.1, u.2.2.1, u.2.2.2)) := hD
  have hS : va_S (ft_A 2 ad) s.heap s.heap [] := va_S.rf
  have hl := lv_entry ([.ref (ad 0), .int x1]) (n := 2) (Nat.le_of_ble_eq_true rfl)
  rw [lg_entry_eq]
  generalize (lg_sl ([.ref (ad 0), .int x1]) ++ List.replicate (2 - (lg_sl ([.ref (ad 0), .int x1])).length) Slot.unset).toArray = ls at hl ⊢
  have hl : lv_has ls 2 [(0, .ref (ad 0)), (1, .int (x1))] := hl
  have hsp := (s_J5_setLength_d00df_0.eq_1 u x1).symm
  refine lv_iload_n hx hb dJ5_setLength_d00df_0 rfl (lv_at hl 1 rfl) ?_
  refine lv_if_ge (tgt := 13) hx hb dJ5_setLength_d00df_1 (by decide) (fun c_1 => ?_) (fun c_1 => ?_)
  · skip
    refine lv_aload_n hx hb dJ5_setLength_d00df_13 rfl (lv_at hl 0 rfl) ?_
    refine lv_iload_n hx hb dJ5_setLength_d00df_14 rfl (lv_at hl 1 rfl) ?_
    refine va_csv (va_Run.run (va_runU (As := [.int (x1)]) (rest := []) ⟨hx, hb, hml, hown, hts⟩ (c_J5_ensureCapacityInternal_d00df_o l dC ad k (u.1, u.2.1, u.2.2.1, u.2.2.2) x1  (ft_cap (n := 0) (q := 0) h1 (Nat.zero_le _) h4)) (va_cwU 1 hts gJ5_setLength_d00df_J5_ensureCapacityInternal_d00df_u100J4 rfl rfl rfl rfl (by decide +kernel) ⟨Nat.le_of_ble_eq_true rfl, Nat.le_of_ble_eq_true rfl⟩) (ft_preVc hK hP (ci := 1) rfl (ft_get' (by decide) rfl)) rfl rfl hl.1 rfl (lv_room (Nat.le_of_ble_eq_true rfl)) dJ5_setLength_d00df_15 ⟨Nat.le_of_ble_eq_true rfl, Nat.le_of_ble_eq_true rfl⟩)) (fun _ => ?_)
    refine lv_aload_n hx hb dJ5_setLength_d00df_18 rfl (lv_at hl 0 rfl) ?_
    refine va_get (D := dC) (ci := 1) (v := .int (u.2.1)) (C := RJ4) (T := TJ4) (N := 4) hx hb hts (by decide +kernel) hown hK.1 hP 0 (ft_get' (by decide) rfl) rfl 3 (by decide) (hts (.fieldLink RJ5 79 "java/lang/AbstractStringBuilder" "count" "I") (by decide +kernel)) (fun _ h9 => h9) rfl dJ5_setLength_d00df_19 ?_
    refine lv_iload_n hx hb dJ5_setLength_d00df_22 rfl (lv_at hl 1 rfl) ?_
    refine lv_icmp_ge (tgt := 63) hx hb dJ5_setLength_d00df_23 (by decide) (fun c_23 => ?_) (fun c_23 => ?_)
    · skip
      refine lv_aload_n hx hb dJ5_setLength_d00df_63 rfl (lv_at hl 0 rfl) ?_
      refine va_get (D := dC) (ci := 1) (v := .int (u.2.1)) (C := RJ4) (T := TJ4) (N := 4) hx hb hts (by decide +kernel) hown hK.1 hP 0 (ft_get' (by decide) rfl) rfl 3 (by decide) (hts (.fieldLink RJ5 79 "java/lang/AbstractStringBuilder" "count" "I") (by decide +kernel)) (fun _ h9 => h9) rfl dJ5_setLength_d00df_64 ?_
      refine lv_iload_n hx hb dJ5_setLength_d00df_67 rfl (lv_at hl 1 rfl) ?_
      refine lv_icmp_le (tgt := 76) hx hb dJ5_setLength_d00df_68 (by decide) (fun c_68 => ?_) (fun c_68 => ?_)
      · replace hsp := (if_pos c_68).symm.trans hsp
        refine lv_aload_n hx hb dJ5_setLength_d00df_76 rfl (lv_at hl 0 rfl) ?_
        refine lv_iload_n hx hb dJ5_setLength_d00df_77 rfl (lv_at hl 1 rfl) ?_
        refine va_put (D := dC) (ci := 1) (v := .int (x1)) (ty := .int) (C := RJ4) (T := TJ4) (N := 4) hx hb hts (by decide +kernel) tyJ4 tyJ4_ok nmJ4 hown hK.1 hP hD hS 0 (ft_get' (by decide) rfl) rfl 3 (by decide) (hts (.fieldLink RJ5 79 "java/lang/AbstractStringBuilder" "count" "I") (by decide +kernel)) (fun _ h9 => h9) rfl (by decide +kernel) rfl rfl (Nat.le_of_ble_eq_true rfl) dJ5_setLength_d00df_78 (fun H locs hP hD hS => ?_)
        have hP := ft_cast hP (ft_B_p3 (ad := ad) (k := k))
        have hD := ft_castD hD (ft_B_p3 (ad := ad) (k := k))
        have hP : va_P dC vwCl (ft_WB ad k (u.1, x1, u.2.2.1, u.2.2.2)) H := hP
        have hD : va_D (ft_A 2 ad) (ft_WB ad k (u.1, x1, u.2.2.1, u.2.2.2)) := hD
        exact W.vret hx hb hr (fun t ht hW => ⟨⟨(u.1, x1, u.2.2.1, u.2.2.2), rfl, hsp, ft_heap ht hP⟩, hS.F ht⟩) hS.2.2 dJ5_setLength_d00df_81
      · replace hsp := (if_neg c_68).symm.trans hsp
        refine lv_aload_n hx hb dJ5_setLength_d00df_71 rfl (lv_at hl 0 rfl) ?_
        refine lv_iconst (v := 1) hx hb dJ5_setLength_d00df_72 (by decide) ?_
        refine va_put (D := dC) (ci := 1) (v := .int (1)) (ty := .boolean) (C := RJ4) (T := TJ4) (N := 4) hx hb hts (by decide +kernel) tyJ4 tyJ4_ok nmJ4 hown hK.1 hP hD hS 0 (ft_get' (by decide) rfl) rfl 2 (by decide) (hts (.fieldLink RJ5 73 "java/lang/AbstractStringBuilder" "maybeLatin1" "Z") (by decide +kernel)) (fun _ h9 => h9) rfl (by decide +kernel) rfl rfl (Nat.le_of_ble_eq_true rfl) dJ5_setLength_d00df_73 (fun H locs hP hD hS => ?_)
        have hP := ft_cast hP (ft_B_p2 (ad := ad) (k := k))
        have hD := ft_castD hD (ft_B_p2 (ad := ad) (k := k))
        have hP : va_P dC vwCl (ft_WB ad k (1, u.2.1, u.2.2.1, u.2.2.2)) H := hP
        have hD : va_D (ft_A 2 ad) (ft_WB ad k (1, u.2.1, u.2.2.1, u.2.2.2)) := hD
        refine lv_aload_n hx hb dJ5_setLength_d00df_76 rfl (lv_at hl 0 rfl) ?_
        refine lv_iload_n hx hb dJ5_setLength_d00df_77 rfl (lv_at hl 1 rfl) ?_
        refine va_put (D := dC) (ci := 1) (v := .int (x1)) (ty := .int) (C := RJ4) (T := TJ4) (N := 4) hx hb hts (by decide +kernel) tyJ4 tyJ4_ok nmJ4 hown hK.1 hP hD hS 0 (ft_get' (by decide) rfl) rfl 3 (by decide) (hts (.fieldLink RJ5 79 "java/lang/AbstractStringBuilder" "count" "I") (by decide +kernel)) (fun _ h9 => h9) rfl (by decide +kernel) rfl rfl (Nat.le_of_ble_eq_true rfl) dJ5_setLength_d00df_78 (fun H locs hP hD hS => ?_)
        have hP := ft_cast hP (ft_B_p3 (ad := ad) (k := k))
        have hD := ft_castD hD (ft_B_p3 (ad := ad) (k := k))
        have hP : va_P dC vwCl (ft_WB ad k (1, x1, u.2.2.1, u.2.2.2)) H := hP
        have hD : va_D (ft_A 2 ad) (ft_WB ad k (1, x1, u.2.2.1, u.2.2.2)) := hD
        exact W.vret hx hb hr (fun t ht hW => ⟨⟨(1, x1, u.2.2.1, u.2.2.2), rfl, hsp, ft_heap ht hP⟩, hS.F ht⟩) hS.2.2 dJ5_setLength_d00df_81
    · skip
      exact absurd (ft_zle2 h1 h2 h3) c_23
  · skip
    exact absurd (ft_zle h1) c_1

def s_J4_setLength_d00df_0 (u : ft_TB) (x1 : Int32) : ft_TB := ((s_J5_setLength_d00df_0 (u.1, u.2.1, u.2.2.1, u.2.2.2) x1).1, (s_J5_setLength_d00df_0 (u.1, u.2.1, u.2.2.1, u.2.2.2) x1).2.1, (s_J5_setLength_d00df_0 (u.1, u.2.1, u.2.2.1, u.2.2.2) x1).2.2.1, (s_J5_setLength_d00df_0 (u.1, u.2.1, u.2.2.1, u.2.2.2) x1).2.2.2)
set_option maxHeartbeats 4000000 in
set_option maxRecDepth 100000 in
theorem c_J4_setLength_d00df_0 (l : Launch) (dC : va_G) (ad : Nat → Nat) (k : Nat → ClassId) (u : ft_TB) (x1 : Int32)  (n : Nat) (h1 : x1 = 0) (h2 : u.2.1 = nI n) (h3 : n < 2 ^ 31) (h4 : u.2.2.1 ≤ 65536) : Met l yJ4_setLength_d00df wsJ4_setLength_d00df ({ frames := 2, cells := 0, slots := 0, locals := 43 }) (ft_Pd dC k [.ref (ad 0), .int x1] (ft_WB ad k u)) (va_Qv (fun v : ft_TB => v = s_J4_setLength_d00df_0 u x1) (fun v t => va_P dC vwCl (ft_WB ad k v) t.heap) (ft_A 2 ad)) 0 0 (ft_A 2 ad) := by
  refine va_MetF (cc := cJ4_setLength_d00df) (maxL := 2) (ret := none) (by decide +kernel) rfl ?_
  intro p e s m args below meth c s₁ B hml hv
  obtain ⟨hargs, hP, hK, hD0⟩ := hv
  subst hargs
  have hx := B.exec
  have hb := B.bytes
  have hr := B.returns
  have hts := atoms_spec (ws := wsJ4_setLength_d00df) B.pre
  have hown : s.vm.findClass RJ4 = some m.cls := findClass_of_methodNamed B.named
  have hlocks := B.notSynchronized
  have hD := ft_D_self hD0
  have hP : va_P dC vwCl (ft_WB ad k (u.1, u.2.1, u.2.2.1, u.2.2.2)) s.heap := hP
  have hD : va_D (ft_A 2 ad) (ft_WB ad k (u.1, u.2.1, u.2.2.1, u.2.2.2)) := hD
  have hS : va_S (ft_A 2 ad) s.heap s.heap [] := va_S.rf
  have hl := lv_entry ([.ref (ad 0), .int x1]) (n := 2) (Nat.le_of_ble_eq_true rfl)
  rw [lg_entry_eq]
  generalize (lg_sl ([.ref (ad 0), .int x1]) ++ List.replicate (2 - (lg_sl ([.ref (ad 0), .int x1])).length) Slot.unset).toArray = ls at hl ⊢
  have hl : lv_has ls 2 [(0, .ref (ad 0)), (1, .int (x1))] := hl
  have hsp := (s_J4_setLength_d00df_0.eq_1 u x1).symm
  refine lv_aload_n hx hb dJ4_setLength_d00df_0 rfl (lv_at hl 0 rfl) ?_
  refine lv_iload_n hx hb dJ4_setLength_d00df_1 rfl (lv_at hl 1 rfl) ?_
  refine va_callv (va_runSU (As := [.int (x1)]) (rest := []) (ft_atSB hK) ⟨hx, hb, hml, hown, hts⟩ (c_J5_setLength_d00df_0 l dC ad k (u.1, u.2.1, u.2.2.1, u.2.2.2) x1  n h1 h2 h3 h4) (va_cwSU 1 hts gJ4_setLength_d00df_J5_setLength_d00df_s333 rfl rfl rfl (by decide +kernel) ⟨Nat.le_of_ble_eq_true rfl, Nat.le_of_ble_eq_true rfl⟩) (ft_preVd hK hP hD (ci := 1) rfl (ft_get' (by decide) rfl)) rfl rfl hl.1 rfl (lv_room (Nat.le_of_ble_eq_true rfl)) dJ4_setLength_d00df_2 ⟨Nat.le_of_ble_eq_true rfl, Nat.le_of_ble_eq_true rfl⟩) hS (fun z9 _ h => h) (fun z9 h => h) (fun u9 t H1 locs ht hvm hw hB hz1 hk1 hS => ?_)
  subst hw
  rw [ht] at hB
  have hP : va_P dC vwCl (ft_WB ad k ((s_J5_setLength_d00df_0 (u.1, u.2.1, u.2.2.1, u.2.2.2) x1).1, (s_J5_setLength_d00df_0 (u.1, u.2.1, u.2.2.1, u.2.2.2) x1).2.1, (s_J5_setLength_d00df_0 (u.1, u.2.1, u.2.2.1, u.2.2.2) x1).2.2.1, (s_J5_setLength_d00df_0 (u.1, u.2.1, u.2.2.1, u.2.2.2) x1).2.2.2)) H1 := hB
  have hD : va_D (ft_A 2 ad) (ft_WB ad k ((s_J5_setLength_d00df_0 (u.1, u.2.1, u.2.2.1, u.2.2.2) x1).1, (s_J5_setLength_d00df_0 (u.1, u.2.1, u.2.2.1, u.2.2.2) x1).2.1, (s_J5_setLength_d00df_0 (u.1, u.2.1, u.2.2.1, u.2.2.2) x1).2.2.1, (s_J5_setLength_d00df_0 (u.1, u.2.1, u.2.2.1, u.2.2.2) x1).2.2.2)) := ft_D_va hD _
  generalize H1 = H at hP hS ⊢
  exact W.vret hx hb hr (fun t ht hW => ⟨⟨((s_J5_setLength_d00df_0 (u.1, u.2.1, u.2.2.1, u.2.2.2) x1).1, (s_J5_setLength_d00df_0 (u.1, u.2.1, u.2.2.1, u.2.2.2) x1).2.1, (s_J5_setLength_d00df_0 (u.1, u.2.1, u.2.2.1, u.2.2.2) x1).2.2.1, (s_J5_setLength_d00df_0 (u.1, u.2.1, u.2.2.1, u.2.2.2) x1).2.2.2), rfl, hsp, ft_heap ht hP⟩, hS.F ht⟩) hS.2.2 dJ4_setLength_d00df_5

theorem ft_grow {x1 x2 x3 : Int32} {m q r : Nat} (e1 : x1 = nI m) (e2 : x2 = nI q) (e3 : x3 = nI r) (hq : q ≤ 200000) (hr : r ≤ 200000) : x1 + (if x2 < x3 then x3 else x2) = nI (m + if q < r then r else q) := by
  subst e1; subst e2; subst e3
  by_cases h : q < r
  · rw [if_pos h, if_pos (nI_lt h (by omega)), nI_add]
  · rw [if_neg h, if_neg (nI_nlt (by omega) (by omega)), nI_add]
theorem ft_grow_b {q r : Nat} (hq : q ≤ 200000) (hr : r ≤ 200000) : (if q < r then r else q) ≤ 200000 := by split <;> omega
theorem ft_grow1 {x1 x2 x3 : Int32} {m q r : Nat} (e1 : x1 = nI m) (e2 : x2 = nI q) (e3 : x3 = nI r) (hm : m ≤ 200000) (h0 : 0 < r) (hq : q ≤ 200000) (hr : r ≤ 200000) : ¬ x1 + (if x2 < x3 then x3 else x2) ≤ 0 := by
  rw [ft_grow e1 e2 e3 hq hr]
  have h1 := ft_grow_b hq hr
  exact nI_nle (by have : 0 < (if q < r then r else q) := by split <;> omega
                   omega) (by omega)
theorem ft_grow2 {x1 x2 x3 : Int32} {m q r : Nat} (e1 : x1 = nI m) (e2 : x2 = nI q) (e3 : x3 = nI r) (hm : m ≤ 200000) (hq : q ≤ 200000) (hr : r ≤ 200000) : ¬ (2147483639 : Int32) < x1 + (if x2 < x3 then x3 else x2) := by
  rw [ft_grow e1 e2 e3 hq hr]
  have h1 := ft_grow_b hq hr
  exact nI_nlt (a := 2147483639) (by omega) (by decide)
theorem ft_grow3 {x1 x2 x3 : Int32} {m q r : Nat} (e1 : x1 = nI m) (e2 : x2 = nI q) (e3 : x3 = nI r) (hm : m ≤ 200000) (hq : q ≤ 200000) (hr : r ≤ 200000) : ¬ x1 + (if x2 < x3 then x3 else x2) = 2147483647 := by
  rw [ft_grow e1 e2 e3 hq hr]
  have h1 := ft_grow_b hq hr
  intro h
  have h2 := (nI_eq (b := 2147483647) (by omega) (by decide)).mp h
  omega
theorem ft_gsub {x : Int32} {q m : Nat} (e : x = nI q) (h : m ≤ q) : x - nI m = nI (q - m) := by
  subst e
  exact pk_sub h
theorem ft_gad2 (m : Nat) : nI m + 2 = nI (m + 2) := nI_add m 2

def s_J8_newLength_cabcc (x1 : Int32) (x2 : Int32) (x3 : Int32) : Int32 := x1 + (if x2 < x3 then x3 else x2)
set_option maxHeartbeats 4000000 in
set_option maxRecDepth 100000 in
theorem c_J8_newLength_cabcc (l : Launch) (x1 : Int32) (x2 : Int32) (x3 : Int32)  (m q r : Nat) (e1 : x1 = nI m) (e2 : x2 = nI q) (e3 : x3 = nI r) (hm : m ≤ 200000) (h0 : 0 < r) (hq : q ≤ 200000) (hrr : r ≤ 200000) : Met l yJ8_newLength_cabcc wsJ8_newLength_cabcc ({ frames := 1, cells := 0, slots := 0, locals := 40 }) (ft_Pn [.int x1, .int x2, .int x3]) (vp_Si (fun z : Int32 => z = s_J8_newLength_cabcc x1 x2 x3)) 0 0 (fun _ => False) := by
  refine va_MetF (cc := cJ8_newLength_cabcc) (maxL := 4) (ret := (some .int)) (by decide +kernel) rfl ?_
  intro p e s m args below meth c s₁ B hml hv
  obtain ⟨hargs, -⟩ := hv
  subst hargs
  have hx := B.exec
  have hb := B.bytes
  have hr := B.returns
  have hts := atoms_spec (ws := wsJ8_newLength_cabcc) B.pre
  have hown : s.vm.findClass RJ8 = some m.cls := findClass_of_methodNamed B.named
  have hlocks := B.notSynchronized
  have hl := lv_entry ([.int x1, .int x2, .int x3]) (n := 4) (Nat.le_of_ble_eq_true rfl)
  rw [lg_entry_eq]
  generalize (lg_sl ([.int x1, .int x2, .int x3]) ++ List.replicate (4 - (lg_sl ([.int x1, .int x2, .int x3])).length) Slot.unset).toArray = ls at hl ⊢
  have hl : lv_has ls 4 [(0, .int (x1)), (1, .int (x2)), (2, .int (x3))] := hl
  have hsp := (s_J8_newLength_cabcc.eq_1  x1 x2 x3).symm
  refine lv_iload_n hx hb dJ8_newLength_cabcc_0 rfl (lv_at hl 0 rfl) ?_
  refine lv_iload_n hx hb dJ8_newLength_cabcc_1 rfl (lv_at hl 1 rfl) ?_
  refine lv_iload_n hx hb dJ8_newLength_cabcc_2 rfl (lv_at hl 2 rfl) ?_
  refine va_mmax hx hb (hml.trans hl.1.symm) hown (hts (.methodLink RJ8 194 Lib.Math.max.name) (by decide +kernel)) (hts (.static Lib.Math.max.name) (by decide +kernel)) (hts (.initialized "java/lang/Math") (by decide +kernel)) (hts (.code Lib.Math.max.name Lib.Math.max.code 2 (some .int)) (by decide +kernel)) (Nat.le_of_ble_eq_true rfl) (Nat.le_of_ble_eq_true rfl) (Nat.le_of_ble_eq_true rfl) (Nat.le_of_ble_eq_true rfl) dJ8_newLength_cabcc_3 ?_
  refine lv_iadd hx hb dJ8_newLength_cabcc_6 ?_
  refine lv_istore_n (lv' := [(3, .int (x1 + (if x2 < x3 then x3 else x2))), (0, .int (x1)), (1, .int (x2)), (2, .int (x3))]) hx hb dJ8_newLength_cabcc_7 rfl hl (by decide) rfl (fun ls hl => ?_)
  refine lv_iconst (v := 0) hx hb dJ8_newLength_cabcc_8 (by decide) ?_
  refine lv_iload_n hx hb dJ8_newLength_cabcc_9 rfl (lv_at hl 0 rfl) ?_
  refine lv_icmp_ge (tgt := 21) hx hb dJ8_newLength_cabcc_10 (by decide) (fun c_10 => ?_) (fun c_10 => ?_)
  · skip
    exact absurd c_10 (ft_grow1 e1 e2 e3 hm h0 hq hrr)
  · skip
    refine lv_iload_n hx hb dJ8_newLength_cabcc_13 rfl (lv_at hl 0 rfl) ?_
    refine lv_ldc hx hb hown (hts (.constant RJ8 200 (2147483639)) (by decide +kernel)) dJ8_newLength_cabcc_14 ?_
    refine lv_icmp_gt (tgt := 21) hx hb dJ8_newLength_cabcc_16 (by decide) (fun c_16 => ?_) (fun c_16 => ?_)
    · skip
      exact absurd c_16 (ft_grow2 e1 e2 e3 hm hq hrr)
    · skip
      refine lv_iload_n hx hb dJ8_newLength_cabcc_19 rfl (lv_at hl 0 rfl) ?_
      exact W.iret (v := x1 + (if x2 < x3 then x3 else x2)) hx hb hr (fun t ht hW => ft_endi (post := fun z : Int32 => z = s_J8_newLength_cabcc x1 x2 x3) hsp ht) (fun _ h => absurd h List.not_mem_nil) dJ8_newLength_cabcc_20

def s_J5_newCapacity_0f7a4 (u : ft_TB) (x1 : Int32) : Int32 := (s_J8_newLength_cabcc  (nI u.2.2.1) (x1 - (nI u.2.2.1)) ((nI u.2.2.1) + 2))
set_option maxHeartbeats 4000000 in
set_option maxRecDepth 100000 in
theorem c_J5_newCapacity_0f7a4 (l : Launch) (dC : va_G) (ad : Nat → Nat) (k : Nat → ClassId) (u : ft_TB) (x1 : Int32)  (q : Nat) (h1 : x1 = nI q) (h2 : u.2.2.1 ≤ q) (h3 : q ≤ 100000) : Met l yJ5_newCapacity_0f7a4 wsJ5_newCapacity_0f7a4 ({ frames := 2, cells := 0, slots := 0, locals := 63 }) (ft_Pc dC k [.ref (ad 0), .int x1] (ft_WB ad k u)) (vp_Si (fun z : Int32 => z = s_J5_newCapacity_0f7a4 u x1)) 0 0 (fun _ => False) := by
  refine va_MetF (cc := cJ5_newCapacity_0f7a4) (maxL := 6) (ret := (some .int)) (by decide +kernel) rfl ?_
  intro p e s m args below meth c s₁ B hml hv
  obtain ⟨hargs, hP, hK⟩ := hv
  subst hargs
  have hx := B.exec
  have hb := B.bytes
  have hr := B.returns
  have hts := atoms_spec (ws := wsJ5_newCapacity_0f7a4) B.pre
  have hown : s.vm.findClass RJ5 = some m.cls := findClass_of_methodNamed B.named
  have hlocks := B.notSynchronized
  have hl := lv_entry ([.ref (ad 0), .int x1]) (n := 6) (Nat.le_of_ble_eq_true rfl)
  rw [lg_entry_eq]
  generalize (lg_sl ([.ref (ad 0), .int x1]) ++ List.replicate (6 - (lg_sl ([.ref (ad 0), .int x1])).length) Slot.unset).toArray = ls at hl ⊢
  have hl : lv_has ls 6 [(0, .ref (ad 0)), (1, .int (x1))] := hl
  have hsp := (s_J5_newCapacity_0f7a4.eq_1 u x1).symm
  refine lv_aload_n hx hb dJ5_newCapacity_0f7a4_0 rfl (lv_at hl 0 rfl) ?_
  refine va_get (D := dC) (ci := 1) (v := .ref (ad 1)) (C := RJ4) (T := TJ4) (N := 4) hx hb hts (by decide +kernel) hown hK.1 hP 0 (ft_get' (by decide) rfl) rfl 0 (by decide) (hts (.fieldLink RJ5 15 "java/lang/AbstractStringBuilder" "value" "[B") (by decide +kernel)) (fun _ h9 => h9) rfl dJ5_newCapacity_0f7a4_1 ?_
  refine va_alen (v := nI u.2.2.1) hx hb hK.1 hP 1 4 (ft_get' (by decide) rfl) rfl rfl dJ5_newCapacity_0f7a4_4 ?_
  refine lv_istore_n (lv' := [(2, .int (nI u.2.2.1)), (0, .ref (ad 0)), (1, .int (x1))]) hx hb dJ5_newCapacity_0f7a4_5 rfl hl (by decide) rfl (fun ls hl => ?_)
  refine lv_iload_n hx hb dJ5_newCapacity_0f7a4_6 rfl (lv_at hl 2 rfl) ?_
  refine lv_aload_n hx hb dJ5_newCapacity_0f7a4_7 rfl (lv_at hl 1 rfl) ?_
  refine va_get (D := dC) (ci := 1) (v := .int (0)) (C := RJ4) (T := TJ4) (N := 4) hx hb hts (by decide +kernel) hown hK.1 hP 0 (ft_get' (by decide) rfl) rfl 1 (by decide) (hts (.fieldLink RJ5 22 "java/lang/AbstractStringBuilder" "coder" "B") (by decide +kernel)) (fun _ h9 => h9) rfl dJ5_newCapacity_0f7a4_8 ?_
  refine lv_ishl hx hb dJ5_newCapacity_0f7a4_11 ?_
  rw [sb_shl0]
  refine lv_istore_n (lv' := [(3, .int (x1)), (2, .int (nI u.2.2.1)), (0, .ref (ad 0)), (1, .int (x1))]) hx hb dJ5_newCapacity_0f7a4_12 rfl hl (by decide) rfl (fun ls hl => ?_)
  refine lv_iload_n hx hb dJ5_newCapacity_0f7a4_13 rfl (lv_at hl 0 rfl) ?_
  refine lv_iload_n hx hb dJ5_newCapacity_0f7a4_14 rfl (lv_at hl 1 rfl) ?_
  refine lv_isub hx hb dJ5_newCapacity_0f7a4_15 ?_
  refine lv_istore (lv' := [(4, .int (x1 - (nI u.2.2.1))), (3, .int (x1)), (2, .int (nI u.2.2.1)), (0, .ref (ad 0)), (1, .int (x1))]) hx hb dJ5_newCapacity_0f7a4_16 hl (by decide) rfl (fun ls hl => ?_)
  refine lv_iload_n hx hb dJ5_newCapacity_0f7a4_18 rfl (lv_at hl 2 rfl) ?_
  refine lv_iload hx hb dJ5_newCapacity_0f7a4_19 (lv_at hl 0 rfl) ?_
  refine lv_iload_n hx hb dJ5_newCapacity_0f7a4_21 rfl (lv_at hl 2 rfl) ?_
  refine lv_iconst (v := 2) hx hb dJ5_newCapacity_0f7a4_22 (by decide) ?_
  refine lv_aload_n hx hb dJ5_newCapacity_0f7a4_23 rfl (lv_at hl 3 rfl) ?_
  refine va_get (D := dC) (ci := 1) (v := .int (0)) (C := RJ4) (T := TJ4) (N := 4) hx hb hts (by decide +kernel) hown hK.1 hP 0 (ft_get' (by decide) rfl) rfl 1 (by decide) (hts (.fieldLink RJ5 22 "java/lang/AbstractStringBuilder" "coder" "B") (by decide +kernel)) (fun _ h9 => h9) rfl dJ5_newCapacity_0f7a4_24 ?_
  refine lv_ishl hx hb dJ5_newCapacity_0f7a4_27 ?_
  rw [sb_shl0]
  refine lv_iadd hx hb dJ5_newCapacity_0f7a4_28 ?_
  refine vp_callSi (va_Run.run (va_runS (As := [.int (nI u.2.2.1), .int (x1 - (nI u.2.2.1)), .int ((nI u.2.2.1) + 2)]) (rest := []) ⟨hx, hb, hml, hown, hts⟩ (c_J8_newLength_cabcc l (nI u.2.2.1) (x1 - (nI u.2.2.1)) ((nI u.2.2.1) + 2)  u.2.2.1 (q - u.2.2.1) (u.2.2.1 + 2) rfl (ft_gsub h1 h2) (ft_gad2 _) (by omega) (by omega) (by omega) (by omega)) (va_cwS 3 hts gJ5_newCapacity_0f7a4_J8_newLength_cabcc rfl rfl rfl (by decide +kernel) ⟨Nat.le_of_ble_eq_true rfl, Nat.le_of_ble_eq_true rfl⟩) ft_preSn rfl rfl hl.1 rfl (lv_room (Nat.le_of_ble_eq_true rfl)) dJ5_newCapacity_0f7a4_29 ⟨Nat.le_of_ble_eq_true rfl, Nat.le_of_ble_eq_true rfl⟩)) (fun z hz => ?_)
  subst hz
  refine lv_istore (lv' := [(5, .int ((s_J8_newLength_cabcc  (nI u.2.2.1) (x1 - (nI u.2.2.1)) ((nI u.2.2.1) + 2)))), (4, .int (x1 - (nI u.2.2.1))), (3, .int (x1)), (2, .int (nI u.2.2.1)), (0, .ref (ad 0)), (1, .int (x1))]) hx hb dJ5_newCapacity_0f7a4_32 hl (by decide) rfl (fun ls hl => ?_)
  refine lv_iload hx hb dJ5_newCapacity_0f7a4_34 (lv_at hl 0 rfl) ?_
  refine lv_ldc hx hb hown (hts (.constant RJ5 39 (2147483647)) (by decide +kernel)) dJ5_newCapacity_0f7a4_36 ?_
  refine lv_icmp_ne (tgt := 51) hx hb dJ5_newCapacity_0f7a4_38 (by decide) (fun c_38 => ?_) (fun c_38 => ?_)
  · skip
    refine lv_iload hx hb dJ5_newCapacity_0f7a4_51 (lv_at hl 0 rfl) ?_
    refine lv_aload_n hx hb dJ5_newCapacity_0f7a4_53 rfl (lv_at hl 4 rfl) ?_
    refine va_get (D := dC) (ci := 1) (v := .int (0)) (C := RJ4) (T := TJ4) (N := 4) hx hb hts (by decide +kernel) hown hK.1 hP 0 (ft_get' (by decide) rfl) rfl 1 (by decide) (hts (.fieldLink RJ5 22 "java/lang/AbstractStringBuilder" "coder" "B") (by decide +kernel)) (fun _ h9 => h9) rfl dJ5_newCapacity_0f7a4_54 ?_
    refine lv_ishr hx hb dJ5_newCapacity_0f7a4_57 ?_
    rw [sb_shr0]
    exact W.iret (v := (s_J8_newLength_cabcc  (nI u.2.2.1) (x1 - (nI u.2.2.1)) ((nI u.2.2.1) + 2))) hx hb hr (fun t ht hW => ft_endi (post := fun z : Int32 => z = s_J5_newCapacity_0f7a4 u x1) hsp ht) (fun _ h => absurd h List.not_mem_nil) dJ5_newCapacity_0f7a4_58
  · skip
    exact absurd c_38 (ft_grow3 rfl (ft_gsub h1 h2) (ft_gad2 _) (by omega) (by omega) (by omega))
