/-! texts. Y: a row of bytes (its length, its bytes); B: a StringBuilder of Latin-1 bytes (maybeLatin1, count, its row's length, its bytes) -/
abbrev ft_TY : Type := Nat × (Nat → Int32)
abbrev ft_TB : Type := Int32 × Int32 × Nat × (Nat → Int32)
def ft_Y (k : Nat → ClassId) (u : ft_TY) : Nat → va_E := fun _ => .inl (k 4, u.1, .inl u.2)
def ft_B (ad : Nat → Nat) (k : Nat → ClassId) (u : ft_TB) : Nat → va_E := fun j => match j with
  | 0 => .inr (1, [.ref (ad 1), .int 0, .int u.1, .int u.2.1])
  | _ => .inl (k 4, u.2.2.1, .inl u.2.2.2)
abbrev ft_WY (ad : Nat → Nat) (k : Nat → ClassId) (u : ft_TY) : va_W := ft_W 1 ad (ft_Y k u)
abbrev ft_WB (ad : Nat → Nat) (k : Nat → ClassId) (u : ft_TB) : va_W := ft_W 2 ad (ft_B ad k u)
def ft_b8 (x : Int32) : Int32 := vp_nar .byte x
def ft_rq (v : Value) : Prop := v = .null ∨ ∃ t : Nat, v = .ref t
theorem ft_Y_s {ad : Nat → Nat} {k : Nat → ClassId} {m : Nat} {f : Nat → Int32} {i : Nat} {v : Int32} : (ft_WY ad k (m, f)).set 0 (ad 0, .inl (k 4, m, .inl (upd f i v))) = ft_WY ad k (m, va_up f i v) := by
  refine ft_set' (fun j hj => ?_)
  match j, hj with
  | 0, _ =>
    rw [va_up_self]
    refine congrArg (fun g => (.inl (k 4, m, .inl g) : va_E)) (funext fun x => ?_)
    show upd f i v x = va_up f i v x
    by_cases hx : x = i
    · subst hx; rw [va_up_self]; simp [upd]
    · rw [va_up_ne _ _ hx]; simp [upd, hx]
theorem ft_B_Y {D : va_G} {ad : Nat → Nat} {k : Nat → ClassId} {u : ft_TB} {H : Heap} (hP : va_P D vwCl (ft_WB ad k u) H) : va_P D vwCl (ft_WY (fun j => ad (1 + j)) k (u.2.2.1, u.2.2.2)) H :=
  ft_P_sub (m := 1) hP (fun j => 1 + j) (fun j hj => by omega) (fun _ _ => rfl) (fun j hj => match j, hj with | 0, _ => rfl)
theorem ft_atSB {D : va_G} {k : Nat → ClassId} {s : State} (hK : ft_K D k s) : ClassAt s RJ4 (D.1 1) := (hK.1.1 1 _ rfl).2
theorem ft_preSc {D : va_G} {k : Nat → ClassId} {s : State} {H : Heap} {As : List Value} {ws : va_W} (hK : ft_K D k s) (hP : va_P D vwCl ws H) : PreS s H (ft_Pc D k As ws) As := ⟨ft_Pc.blind, fun U hU hW => ⟨rfl, by rw [hU]; exact hP, hK.warm hW⟩⟩
theorem ft_preSd {D : va_G} {k : Nat → ClassId} {s : State} {H : Heap} {As : List Value} {ws : va_W} {A : Nat → Prop} (hK : ft_K D k s) (hP : va_P D vwCl ws H) (hD : va_D A ws) : PreS s H (ft_Pd D k As ws) As := ⟨ft_Pd.blind, fun U hU hW => ⟨rfl, by rw [hU]; exact hP, hK.warm hW, hD.weaken (fun _ _ _ _ => trivial)⟩⟩
theorem ft_preSe {D : va_G} {k : Nat → ClassId} {Z : Nat → Nat → Nat} {A B : Nat → Prop} {s : State} {H : Heap} {locs : List Loc} {As : List Value} {ws : va_W} (hE : ft_E D k Z A s) (hS : va_S A s.heap H locs) (hAB : ∀ q, B q → A q) (hP : va_P D vwCl ws H) : PreS s H (ft_Pe D k Z B As ws) As := ⟨ft_Pe.blind, fun U hU hW => ⟨rfl, by rw [hU]; exact hP, hE.go hS hAB hU hW⟩⟩
theorem ft_preSf {D : va_G} {k : Nat → ClassId} {Z : Nat → Nat → Nat} {A B A' : Nat → Prop} {s : State} {H : Heap} {locs : List Loc} {As : List Value} {ws : va_W} (hE : ft_E D k Z A s) (hS : va_S A s.heap H locs) (hAB : ∀ q, B q → A q) (hP : va_P D vwCl ws H) (hD : va_D A' ws) : PreS s H (ft_Pf D k Z B As ws) As := ⟨ft_Pf.blind, fun U hU hW => ⟨rfl, by rw [hU]; exact hP, hE.go hS hAB hU hW, hD.weaken (fun _ _ _ _ => trivial)⟩⟩
theorem in_cx {i n : Int32} {m : Nat} (h1 : ¬ i < 0) (h2 : i < n) (hn : n = nI m) (hm : m < 2 ^ 31) : vp_in i m := by
  subst hn
  have h := in_of2 h1 h2
  rwa [show tn (nI m) = m from nI_clamp hm] at h

theorem ft_nar_c (x : Int32) : narrow .char (.int ((x.toUInt32 % 65536).toInt32)) = .int ((x.toUInt32 % 65536).toInt32) := by
  have h : ((x.toUInt32 % 65536).toInt32).toUInt32.toUInt16.toUInt32 = x.toUInt32 % 65536 := by
    simp
    exact UInt32.toNat_inj.mp (by rw [UInt32.toNat_mod, UInt32.toNat_mod]; exact Nat.mod_mod _ _)
  show Value.int _ = Value.int _
  rw [h]

def s_J3_checkIndex_8e157 (x1 : Int32) (x2 : Int32) : Int32 := x1
set_option maxHeartbeats 4000000 in
set_option maxRecDepth 100000 in
theorem c_J3_checkIndex_8e157 (l : Launch) (x1 : Int32) (x2 : Int32) (w : Value) (hw : ft_rq w) (h1 : ¬ x1 < 0) (h2 : x1 < x2) : Met l yJ3_checkIndex_8e157 wsJ3_checkIndex_8e157 ({ frames := 0, cells := 0, slots := 0, locals := 0 }) (ft_Pn [.int x1, .int x2, w]) (vp_Si (fun z : Int32 => z = s_J3_checkIndex_8e157 x1 x2)) 0 0 (fun _ => False) := by
  rcases hw with rfl | ⟨t9, rfl⟩
  · skip
    refine va_MetF (cc := cJ3_checkIndex_8e157) (maxL := 3) (ret := (some .int)) (by decide +kernel) rfl ?_
    intro p e s m args below meth c s₁ B hml hv
    obtain ⟨hargs, -⟩ := hv
    subst hargs
    have hx := B.exec
    have hb := B.bytes
    have hr := B.returns
    have hts := atoms_spec (ws := wsJ3_checkIndex_8e157) B.pre
    have hown : s.vm.findClass RJ3 = some m.cls := findClass_of_methodNamed B.named
    have hlocks := B.notSynchronized
    have hl := lv_entry ([.int x1, .int x2, .null]) (n := 3) (Nat.le_of_ble_eq_true rfl)
    rw [lg_entry_eq]
    generalize (lg_sl ([.int x1, .int x2, .null]) ++ List.replicate (3 - (lg_sl ([.int x1, .int x2, .null])).length) Slot.unset).toArray = ls at hl ⊢
    have hl : lv_has ls 3 [(0, .int (x1)), (1, .int (x2)), (2, .null)] := hl
    have hsp := (s_J3_checkIndex_8e157.eq_1  x1 x2).symm
    refine lv_iload_n hx hb dJ3_checkIndex_8e157_0 rfl (lv_at hl 0 rfl) ?_
    refine lv_if_lt (tgt := 9) hx hb dJ3_checkIndex_8e157_1 (by decide) (fun c_1 => ?_) (fun c_1 => ?_)
    · skip
      exact absurd c_1 h1
    · skip
      refine lv_iload_n hx hb dJ3_checkIndex_8e157_4 rfl (lv_at hl 0 rfl) ?_
      refine lv_iload_n hx hb dJ3_checkIndex_8e157_5 rfl (lv_at hl 1 rfl) ?_
      refine lv_icmp_lt (tgt := 16) hx hb dJ3_checkIndex_8e157_6 (by decide) (fun c_6 => ?_) (fun c_6 => ?_)
      · skip
        refine lv_iload_n hx hb dJ3_checkIndex_8e157_16 rfl (lv_at hl 0 rfl) ?_
        exact W.iret (v := x1) hx hb hr (fun t ht hW => ft_endi (post := fun z : Int32 => z = s_J3_checkIndex_8e157 x1 x2) hsp ht) (fun _ h => absurd h List.not_mem_nil) dJ3_checkIndex_8e157_17
      · skip
        exact absurd h2 c_6
  · skip
    refine va_MetF (cc := cJ3_checkIndex_8e157) (maxL := 3) (ret := (some .int)) (by decide +kernel) rfl ?_
    intro p e s m args below meth c s₁ B hml hv
    obtain ⟨hargs, -⟩ := hv
    subst hargs
    have hx := B.exec
    have hb := B.bytes
    have hr := B.returns
    have hts := atoms_spec (ws := wsJ3_checkIndex_8e157) B.pre
    have hown : s.vm.findClass RJ3 = some m.cls := findClass_of_methodNamed B.named
    have hlocks := B.notSynchronized
    have hl := lv_entry ([.int x1, .int x2, .ref t9]) (n := 3) (Nat.le_of_ble_eq_true rfl)
    rw [lg_entry_eq]
    generalize (lg_sl ([.int x1, .int x2, .ref t9]) ++ List.replicate (3 - (lg_sl ([.int x1, .int x2, .ref t9])).length) Slot.unset).toArray = ls at hl ⊢
    have hl : lv_has ls 3 [(0, .int (x1)), (1, .int (x2)), (2, .ref t9)] := hl
    have hsp := (s_J3_checkIndex_8e157.eq_1  x1 x2).symm
    refine lv_iload_n hx hb dJ3_checkIndex_8e157_0 rfl (lv_at hl 0 rfl) ?_
    refine lv_if_lt (tgt := 9) hx hb dJ3_checkIndex_8e157_1 (by decide) (fun c_1 => ?_) (fun c_1 => ?_)
    · skip
      exact absurd c_1 h1
    · skip
      refine lv_iload_n hx hb dJ3_checkIndex_8e157_4 rfl (lv_at hl 0 rfl) ?_
      refine lv_iload_n hx hb dJ3_checkIndex_8e157_5 rfl (lv_at hl 1 rfl) ?_
      refine lv_icmp_lt (tgt := 16) hx hb dJ3_checkIndex_8e157_6 (by decide) (fun c_6 => ?_) (fun c_6 => ?_)
      · skip
        refine lv_iload_n hx hb dJ3_checkIndex_8e157_16 rfl (lv_at hl 0 rfl) ?_
        exact W.iret (v := x1) hx hb hr (fun t ht hW => ft_endi (post := fun z : Int32 => z = s_J3_checkIndex_8e157 x1 x2) hsp ht) (fun _ h => absurd h List.not_mem_nil) dJ3_checkIndex_8e157_17
      · skip
        exact absurd h2 c_6

set_option maxHeartbeats 4000000 in
set_option maxRecDepth 100000 in
theorem c_J0_checkIndex_df160 (l : Launch) (dC : va_G) (Z : Nat → Nat → Nat) (A : Nat → Prop) (k : Nat → ClassId) (x1 : Int32) (x2 : Int32)  (h1 : ¬ x1 < 0) (h2 : x1 < x2) : Met l yJ0_checkIndex_df160 wsJ0_checkIndex_df160 ({ frames := 1, cells := 0, slots := 0, locals := 22 }) (ft_Po dC k Z A [.int x1, .int x2]) (va_Sv (fun _ => True)) 0 0 (fun _ => False) := by
  refine va_MetF (cc := cJ0_checkIndex_df160) (maxL := 2) (ret := none) (by decide +kernel) rfl ?_
  intro p e s m args below meth c s₁ B hml hv
  obtain ⟨hargs, hE⟩ := hv
  have hK := hE.1
  subst hargs
  have hx := B.exec
  have hb := B.bytes
  have hr := B.returns
  have hts := atoms_spec (ws := wsJ0_checkIndex_df160) B.pre
  have hown : s.vm.findClass RJ0 = some m.cls := findClass_of_methodNamed B.named
  have hlocks := B.notSynchronized
  have hS : va_S A s.heap s.heap [] := va_S.rf
  have hl := lv_entry ([.int x1, .int x2]) (n := 2) (Nat.le_of_ble_eq_true rfl)
  rw [lg_entry_eq]
  generalize (lg_sl ([.int x1, .int x2]) ++ List.replicate (2 - (lg_sl ([.int x1, .int x2])).length) Slot.unset).toArray = ls at hl ⊢
  have hl : lv_has ls 2 [(0, .int (x1)), (1, .int (x2))] := hl
  refine lv_iload_n hx hb dJ0_checkIndex_df160_0 rfl (lv_at hl 0 rfl) ?_
  refine lv_iload_n hx hb dJ0_checkIndex_df160_1 rfl (lv_at hl 1 rfl) ?_
  rcases hE.2.2.sf with hz | ⟨t9, hz⟩
  · skip
    refine va_gets (C := "jdk/internal/util/Preconditions") (n := "SIOOBE_FORMATTER") (d := "Ljava/util/function/BiFunction;") hx hb hz hS hown (hts (.fieldLink RJ0 1053 "jdk/internal/util/Preconditions" "SIOOBE_FORMATTER" "Ljava/util/function/BiFunction;") (by decide +kernel)) (fun _ h9 => h9) dJ0_checkIndex_df160_2 ?_
    refine vp_callSi (va_Run.run (va_runS (As := [.int (x1), .int (x2), .null]) (rest := []) ⟨hx, hb, hml, hown, hts⟩ (c_J3_checkIndex_8e157 l x1 x2 .null (Or.inl rfl) h1 h2) (va_cwS 3 hts gJ0_checkIndex_df160_J3_checkIndex_8e157 rfl rfl rfl (by decide +kernel) ⟨Nat.le_of_ble_eq_true rfl, Nat.le_of_ble_eq_true rfl⟩) ft_preSn rfl rfl hl.1 rfl (lv_room (Nat.le_of_ble_eq_true rfl)) dJ0_checkIndex_df160_5 ⟨Nat.le_of_ble_eq_true rfl, Nat.le_of_ble_eq_true rfl⟩)) (fun z hz => ?_)
    subst hz
    refine lv_pop hx hb dJ0_checkIndex_df160_8 rfl ?_
    exact W.vret hx hb hr (fun t ht hW => ⟨rfl, trivial, ht⟩) (fun _ h => absurd h List.not_mem_nil) dJ0_checkIndex_df160_9
  · skip
    refine va_gets (C := "jdk/internal/util/Preconditions") (n := "SIOOBE_FORMATTER") (d := "Ljava/util/function/BiFunction;") hx hb hz hS hown (hts (.fieldLink RJ0 1053 "jdk/internal/util/Preconditions" "SIOOBE_FORMATTER" "Ljava/util/function/BiFunction;") (by decide +kernel)) (fun _ h9 => h9) dJ0_checkIndex_df160_2 ?_
    refine vp_callSi (va_Run.run (va_runS (As := [.int (x1), .int (x2), .ref (t9)]) (rest := []) ⟨hx, hb, hml, hown, hts⟩ (c_J3_checkIndex_8e157 l x1 x2 (.ref t9) (Or.inr ⟨t9, rfl⟩) h1 h2) (va_cwS 3 hts gJ0_checkIndex_df160_J3_checkIndex_8e157 rfl rfl rfl (by decide +kernel) ⟨Nat.le_of_ble_eq_true rfl, Nat.le_of_ble_eq_true rfl⟩) ft_preSn rfl rfl hl.1 rfl (lv_room (Nat.le_of_ble_eq_true rfl)) dJ0_checkIndex_df160_5 ⟨Nat.le_of_ble_eq_true rfl, Nat.le_of_ble_eq_true rfl⟩)) (fun z hz => ?_)
    subst hz
    refine lv_pop hx hb dJ0_checkIndex_df160_8 rfl ?_
    exact W.vret hx hb hr (fun t ht hW => ⟨rfl, trivial, ht⟩) (fun _ h => absurd h List.not_mem_nil) dJ0_checkIndex_df160_9

def s_J1_charAt_3b067 (u : ft_TY) (x2 : Int32) : Int32 := (((u.2 (tn x2)) &&& 255).toUInt32 % 65536).toInt32
set_option maxHeartbeats 4000000 in
set_option maxRecDepth 100000 in
theorem c_J1_charAt_3b067 (l : Launch) (dC : va_G) (Z : Nat → Nat → Nat) (A : Nat → Prop) (ad : Nat → Nat) (k : Nat → ClassId) (u : ft_TY) (x2 : Int32)  (h1 : ¬ x2 < 0) (h2 : x2 < nI u.1) (h3 : u.1 < 2 ^ 31) : Met l yJ1_charAt_3b067 wsJ1_charAt_3b067 ({ frames := 2, cells := 0, slots := 0, locals := 43 }) (ft_Pe dC k Z A [.ref (ad 0), .int x2] (ft_WY ad k u)) (vp_Si (fun z : Int32 => z = s_J1_charAt_3b067 u x2)) 0 0 (fun _ => False) := by
  refine va_MetF (cc := cJ1_charAt_3b067) (maxL := 2) (ret := (some .char)) (by decide +kernel) rfl ?_
  intro p e s m args below meth c s₁ B hml hv
  obtain ⟨hargs, hP, hE⟩ := hv
  have hK := hE.1
  subst hargs
  have hx := B.exec
  have hb := B.bytes
  have hr := B.returns
  have hts := atoms_spec (ws := wsJ1_charAt_3b067) B.pre
  have hown : s.vm.findClass RJ1 = some m.cls := findClass_of_methodNamed B.named
  have hlocks := B.notSynchronized
  have hS : va_S A s.heap s.heap [] := va_S.rf
  have hl := lv_entry ([.ref (ad 0), .int x2]) (n := 2) (Nat.le_of_ble_eq_true rfl)
  rw [lg_entry_eq]
  generalize (lg_sl ([.ref (ad 0), .int x2]) ++ List.replicate (2 - (lg_sl ([.ref (ad 0), .int x2])).length) Slot.unset).toArray = ls at hl ⊢
  have hl : lv_has ls 2 [(0, .ref (ad 0)), (1, .int (x2))] := hl
  have hsp := (s_J1_charAt_3b067.eq_1 u x2).symm
  refine lv_iload_n hx hb dJ1_charAt_3b067_0 rfl (lv_at hl 1 rfl) ?_
  refine lv_aload_n hx hb dJ1_charAt_3b067_1 rfl (lv_at hl 0 rfl) ?_
  refine va_alen hx hb hK.1 hP 0 4 (ft_get' (by decide) rfl) rfl rfl dJ1_charAt_3b067_2 ?_
  refine va_csv (va_Run.run (va_runS (As := [.int (x2), .int (nI u.1)]) (rest := []) ⟨hx, hb, hml, hown, hts⟩ (c_J0_checkIndex_df160 l dC Z A k x2 (nI u.1)  h1 h2) (va_cwS 2 hts gJ1_charAt_3b067_J0_checkIndex_df160 rfl rfl rfl (by decide +kernel) ⟨Nat.le_of_ble_eq_true rfl, Nat.le_of_ble_eq_true rfl⟩) (ft_preSo hE hS (fun _ h => h)) rfl rfl hl.1 rfl (lv_room (Nat.le_of_ble_eq_true rfl)) dJ1_charAt_3b067_3 ⟨Nat.le_of_ble_eq_true rfl, Nat.le_of_ble_eq_true rfl⟩)) (fun _ => ?_)
  refine lv_aload_n hx hb dJ1_charAt_3b067_6 rfl (lv_at hl 0 rfl) ?_
  refine lv_iload_n hx hb dJ1_charAt_3b067_7 rfl (lv_at hl 1 rfl) ?_
  have h_8 : vp_in x2 u.1 := by exact in_cx h1 h2 rfl h3
  refine va_bald hx hb hK.1 hP 0 4 (ft_get' (by decide) rfl) rfl h_8 dJ1_charAt_3b067_8 ?_
  refine lv_sipush (v := 255) hx hb dJ1_charAt_3b067_9 (by decide) ?_
  refine lv_iand hx hb dJ1_charAt_3b067_12 ?_
  refine lv_i2c (v := (((u.2 (tn x2)) &&& 255).toUInt32 % 65536).toInt32) hx hb dJ1_charAt_3b067_13 rfl ?_
  exact W.zret (v := (((u.2 (tn x2)) &&& 255).toUInt32 % 65536).toInt32) hx hb hr (ft_nar_c _) (fun t ht hW => ft_endi (post := fun z : Int32 => z = s_J1_charAt_3b067 u x2) hsp ht) (fun _ h => absurd h List.not_mem_nil) dJ1_charAt_3b067_14

def s_J5_isLatin1_aae02 (u : ft_TB)  : Int32 := 1
set_option maxHeartbeats 4000000 in
set_option maxRecDepth 100000 in
theorem c_J5_isLatin1_aae02 (l : Launch) (dC : va_G) (Z : Nat → Nat → Nat) (A : Nat → Prop) (ad : Nat → Nat) (k : Nat → ClassId) (u : ft_TB)   : Met l yJ5_isLatin1_aae02 wsJ5_isLatin1_aae02 ({ frames := 0, cells := 0, slots := 0, locals := 0 }) (ft_Pe dC k Z A [.ref (ad 0)] (ft_WB ad k u)) (vp_Si (fun z : Int32 => z = s_J5_isLatin1_aae02 u)) 0 0 (fun _ => False) := by
  refine va_MetF (cc := cJ5_isLatin1_aae02) (maxL := 1) (ret := (some .boolean)) (by decide +kernel) rfl ?_
  intro p e s m args below meth c s₁ B hml hv
  obtain ⟨hargs, hP, hE⟩ := hv
  have hK := hE.1
  subst hargs
  have hx := B.exec
  have hb := B.bytes
  have hr := B.returns
  have hts := atoms_spec (ws := wsJ5_isLatin1_aae02) B.pre
  have hown : s.vm.findClass RJ5 = some m.cls := findClass_of_methodNamed B.named
  have hlocks := B.notSynchronized
  have hS : va_S A s.heap s.heap [] := va_S.rf
  have hl := lv_entry ([.ref (ad 0)]) (n := 1) (Nat.le_of_ble_eq_true rfl)
  rw [lg_entry_eq]
  generalize (lg_sl ([.ref (ad 0)]) ++ List.replicate (1 - (lg_sl ([.ref (ad 0)])).length) Slot.unset).toArray = ls at hl ⊢
  have hl : lv_has ls 1 [(0, .ref (ad 0))] := hl
  have hsp := (s_J5_isLatin1_aae02.eq_1 u ).symm
  refine va_gets (C := "java/lang/String") (n := "COMPACT_STRINGS") (d := "Z") hx hb hE.2.2.cs hS hown (hts (.fieldLink RJ5 18 "java/lang/String" "COMPACT_STRINGS" "Z") (by decide +kernel)) (fun _ h9 => h9) dJ5_isLatin1_aae02_0 ?_
  refine lv_if_eq (tgt := 17) hx hb dJ5_isLatin1_aae02_3 (by decide) (fun c_3 => ?_) (fun c_3 => ?_)
  · skip
    first | exact absurd c_3 (by decide) | exact absurd (by decide) c_3
  · skip
    refine lv_aload_n hx hb dJ5_isLatin1_aae02_6 rfl (lv_at hl 0 rfl) ?_
    refine va_get (D := dC) (ci := 1) (v := .int (0)) (C := RJ4) (T := TJ4) (N := 4) hx hb hts (by decide +kernel) hown hK.1 hP 0 (ft_get' (by decide) rfl) rfl 1 (by decide) (hts (.fieldLink RJ5 22 "java/lang/AbstractStringBuilder" "coder" "B") (by decide +kernel)) (fun _ h9 => h9) rfl dJ5_isLatin1_aae02_7 ?_
    refine lv_if_ne (tgt := 17) hx hb dJ5_isLatin1_aae02_10 (by decide) (fun c_10 => ?_) (fun c_10 => ?_)
    · skip
      first | exact absurd c_10 (by decide) | exact absurd (by decide) c_10
    · skip
      refine lv_iconst (v := 1) hx hb dJ5_isLatin1_aae02_13 (by decide) ?_
      refine lv_goto (tgt := 18) hx hb dJ5_isLatin1_aae02_14 (by decide) ?_
      exact W.zret (v := 1) hx hb hr (rfl) (fun t ht hW => ft_endi (post := fun z : Int32 => z = s_J5_isLatin1_aae02 u) hsp ht) (fun _ h => absurd h List.not_mem_nil) dJ5_isLatin1_aae02_18

def s_J5_length_8abf5 (u : ft_TB)  : Int32 := u.2.1
set_option maxHeartbeats 4000000 in
set_option maxRecDepth 100000 in
theorem c_J5_length_8abf5 (l : Launch) (dC : va_G) (ad : Nat → Nat) (k : Nat → ClassId) (u : ft_TB)   : Met l yJ5_length_8abf5 wsJ5_length_8abf5 ({ frames := 0, cells := 0, slots := 0, locals := 0 }) (ft_Pc dC k [.ref (ad 0)] (ft_WB ad k u)) (vp_Si (fun z : Int32 => z = s_J5_length_8abf5 u)) 0 0 (fun _ => False) := by
  refine va_MetF (cc := cJ5_length_8abf5) (maxL := 1) (ret := (some .int)) (by decide +kernel) rfl ?_
  intro p e s m args below meth c s₁ B hml hv
  obtain ⟨hargs, hP, hK⟩ := hv
  subst hargs
  have hx := B.exec
  have hb := B.bytes
  have hr := B.returns
  have hts := atoms_spec (ws := wsJ5_length_8abf5) B.pre
  have hown : s.vm.findClass RJ5 = some m.cls := findClass_of_methodNamed B.named
  have hlocks := B.notSynchronized
  have hl := lv_entry ([.ref (ad 0)]) (n := 1) (Nat.le_of_ble_eq_true rfl)
  rw [lg_entry_eq]
  generalize (lg_sl ([.ref (ad 0)]) ++ List.replicate (1 - (lg_sl ([.ref (ad 0)])).length) Slot.unset).toArray = ls at hl ⊢
  have hl : lv_has ls 1 [(0, .ref (ad 0))] := hl
  have hsp := (s_J5_length_8abf5.eq_1 u ).symm
  refine lv_aload_n hx hb dJ5_length_8abf5_0 rfl (lv_at hl 0 rfl) ?_
  refine va_get (D := dC) (ci := 1) (v := .int (u.2.1)) (C := RJ4) (T := TJ4) (N := 4) hx hb hts (by decide +kernel) hown hK.1 hP 0 (ft_get' (by decide) rfl) rfl 3 (by decide) (hts (.fieldLink RJ5 79 "java/lang/AbstractStringBuilder" "count" "I") (by decide +kernel)) (fun _ h9 => h9) rfl dJ5_length_8abf5_1 ?_
  exact W.iret (v := u.2.1) hx hb hr (fun t ht hW => ft_endi (post := fun z : Int32 => z = s_J5_length_8abf5 u) hsp ht) (fun _ h => absurd h List.not_mem_nil) dJ5_length_8abf5_4

def s_J4_length_8abf5 (u : ft_TB)  : Int32 := (s_J5_length_8abf5 u)
set_option maxHeartbeats 4000000 in
set_option maxRecDepth 100000 in
theorem c_J4_length_8abf5 (l : Launch) (dC : va_G) (ad : Nat → Nat) (k : Nat → ClassId) (u : ft_TB)   : Met l yJ4_length_8abf5 wsJ4_length_8abf5 ({ frames := 1, cells := 0, slots := 0, locals := 20 }) (ft_Pc dC k [.ref (ad 0)] (ft_WB ad k u)) (vp_Si (fun z : Int32 => z = s_J4_length_8abf5 u)) 0 0 (fun _ => False) := by
  refine va_MetF (cc := cJ4_length_8abf5) (maxL := 1) (ret := (some .int)) (by decide +kernel) rfl ?_
  intro p e s m args below meth c s₁ B hml hv
  obtain ⟨hargs, hP, hK⟩ := hv
  subst hargs
  have hx := B.exec
  have hb := B.bytes
  have hr := B.returns
  have hts := atoms_spec (ws := wsJ4_length_8abf5) B.pre
  have hown : s.vm.findClass RJ4 = some m.cls := findClass_of_methodNamed B.named
  have hlocks := B.notSynchronized
  have hl := lv_entry ([.ref (ad 0)]) (n := 1) (Nat.le_of_ble_eq_true rfl)
  rw [lg_entry_eq]
  generalize (lg_sl ([.ref (ad 0)]) ++ List.replicate (1 - (lg_sl ([.ref (ad 0)])).length) Slot.unset).toArray = ls at hl ⊢
  have hl : lv_has ls 1 [(0, .ref (ad 0))] := hl
  have hsp := (s_J4_length_8abf5.eq_1 u ).symm
  refine lv_aload_n hx hb dJ4_length_8abf5_0 rfl (lv_at hl 0 rfl) ?_
  refine vp_callSi (va_Run.run (va_runSU (As := []) (rest := []) (ft_atSB hK) ⟨hx, hb, hml, hown, hts⟩ (c_J5_length_8abf5 l dC ad k u) (va_cwSU 0 hts gJ4_length_8abf5_J5_length_8abf5_s343 rfl rfl rfl (by decide +kernel) ⟨Nat.le_of_ble_eq_true rfl, Nat.le_of_ble_eq_true rfl⟩) (ft_preVc hK hP (ci := 1) rfl (ft_get' (by decide) rfl)) rfl rfl hl.1 rfl (lv_room (Nat.le_of_ble_eq_true rfl)) dJ4_length_8abf5_1 ⟨Nat.le_of_ble_eq_true rfl, Nat.le_of_ble_eq_true rfl⟩)) (fun z hz => ?_)
  subst hz
  exact W.iret (v := (s_J5_length_8abf5 u)) hx hb hr (fun t ht hW => ft_endi (post := fun z : Int32 => z = s_J4_length_8abf5 u) hsp ht) (fun _ h => absurd h List.not_mem_nil) dJ4_length_8abf5_4

def s_J1_canEncode_fc78d (x1 : Int32) : Int32 := if 255 < x1 then (0) else (1)
set_option maxHeartbeats 4000000 in
set_option maxRecDepth 100000 in
theorem c_J1_canEncode_fc78d (l : Launch) (x1 : Int32)  : Met l yJ1_canEncode_fc78d wsJ1_canEncode_fc78d ({ frames := 0, cells := 0, slots := 0, locals := 0 }) (ft_Pn [.int x1]) (vp_Si (fun z : Int32 => z = s_J1_canEncode_fc78d x1)) 0 0 (fun _ => False) := by
  refine va_MetF (cc := cJ1_canEncode_fc78d) (maxL := 1) (ret := (some .boolean)) (by decide +kernel) rfl ?_
  intro p e s m args below meth c s₁ B hml hv
  obtain ⟨hargs, -⟩ := hv
  subst hargs
  have hx := B.exec
  have hb := B.bytes
  have hr := B.returns
  have hts := atoms_spec (ws := wsJ1_canEncode_fc78d) B.pre
  have hown : s.vm.findClass RJ1 = some m.cls := findClass_of_methodNamed B.named
  have hlocks := B.notSynchronized
  have hl := lv_entry ([.int x1]) (n := 1) (Nat.le_of_ble_eq_true rfl)
  rw [lg_entry_eq]
  generalize (lg_sl ([.int x1]) ++ List.replicate (1 - (lg_sl ([.int x1])).length) Slot.unset).toArray = ls at hl ⊢
  have hl : lv_has ls 1 [(0, .int (x1))] := hl
  have hsp := (s_J1_canEncode_fc78d.eq_1  x1).symm
  refine lv_iload_n hx hb dJ1_canEncode_fc78d_0 rfl (lv_at hl 0 rfl) ?_
  refine lv_sipush (v := 255) hx hb dJ1_canEncode_fc78d_1 (by decide) ?_
  refine lv_icmp_gt (tgt := 11) hx hb dJ1_canEncode_fc78d_4 (by decide) (fun c_4 => ?_) (fun c_4 => ?_)
  · replace hsp := (if_pos c_4).symm.trans hsp
    refine lv_iconst (v := 0) hx hb dJ1_canEncode_fc78d_11 (by decide) ?_
    exact W.zret (v := 0) hx hb hr (rfl) (fun t ht hW => ft_endi (post := fun z : Int32 => z = s_J1_canEncode_fc78d x1) hsp ht) (fun _ h => absurd h List.not_mem_nil) dJ1_canEncode_fc78d_12
  · replace hsp := (if_neg c_4).symm.trans hsp
    refine lv_iconst (v := 1) hx hb dJ1_canEncode_fc78d_7 (by decide) ?_
    refine lv_goto (tgt := 12) hx hb dJ1_canEncode_fc78d_8 (by decide) ?_
    exact W.zret (v := 1) hx hb hr (rfl) (fun t ht hW => ft_endi (post := fun z : Int32 => z = s_J1_canEncode_fc78d x1) hsp ht) (fun _ h => absurd h List.not_mem_nil) dJ1_canEncode_fc78d_12
