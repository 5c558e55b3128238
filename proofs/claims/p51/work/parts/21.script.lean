theorem ft_nle {a b : Int32} (h : ¬ a ≤ b) : b < a := by rw [Int32.lt_iff_toInt_lt]; rw [Int32.le_iff_toInt_le] at h; omega
theorem ft_R_B1 {D : va_G} {ad : Nat → Nat} {k : Nat → ClassId} {Z : Nat → Nat → Nat} {q : Nat → Nat → Int32} {pm : Nat → Nat} {o : Nat → Int32} {g : ft_G} {H : Heap} (hP : va_P D vwCl (ft_WR ad k Z q pm o g) H) : va_P D vwCl (ft_WB (fun j => ad (258 + j)) k (o 8, o 6, g.1.1, g.1.2)) H :=
  ft_P_sub (m := 2) hP (fun j => 258 + j) (fun j hj => by have : j < 2 := hj; omega) (fun _ _ => rfl) (fun j hj => match j, hj with
    | 0, _ => rfl
    | 1, _ => rfl)
abbrev ft_wbf (c : Nat) : Nat → Int32 := fun j => (ft_wby.getD c []).getD j 0
abbrev ft_ena : List Int32 := [0, 3, 2, 2, 2, 3, 2, 1, 1]
abbrev ft_enb : List Int32 := [0, 1, 1, 0, 0, 0, 0, 0, 1]
theorem ft_wl31 {c : Nat} (hc : c < 9) : ft_wln.getD c 0 < 2 ^ 31 := by
  match c, hc with
  | 0, _ => decide
  | 1, _ => decide
  | 2, _ => decide
  | 3, _ => decide
  | 4, _ => decide
  | 5, _ => decide
  | 6, _ => decide
  | 7, _ => decide
  | 8, _ => decide
theorem ft_wj {y : Int32} {i c : Nat} (hc : c < 9) (hi : y = nI i) (hl : i < tn (nI (ft_wln.getD c 0))) : y = nI (tn y) ∧ tn y < ft_wln.getD c 0 := by
  have h31 := ft_wl31 hc
  have h1 : tn (nI (ft_wln.getD c 0)) = ft_wln.getD c 0 := nI_clamp h31
  rw [h1] at hl
  have h2 : tn y = i := by rw [hi]; exact nI_clamp (by omega)
  rw [h2]
  exact ⟨hi, hl⟩
section FTG
variable {p : Program} {l : Launch} {e : Env} {R : Room} {s : State} {m : MethodId} {args : Array Value} {below : List Frame} {meth : Method} {c : Code} {H : Heap} {locs : List Loc} {cells slots : Nat} {Q : State → Prop}
variable {cc : ByteArray} {pc : Nat} {ls : Array Slot} {rest : List Value} {A : Nat → Prop}
theorem ft_getfN (hexec : p.tables.exec = Jvm.exec) (hb : c.code = cc) {o n d own ref host : String} {index q : Nat} {v : Value} (hE : va_OF o n d v q A s s.heap) (hS : va_S A s.heap H locs) (hown : s.vm.findClass own = some m.cls) (hlink : (Cond.fieldLinkNest own index ref n d host).before args s = true) (hsame : ∀ x, s.fieldFound? o n d = some x → s.fieldFound? ref n d = some x) (hdg : decode cc pc = .ok (.getfield index, 3))
    (kk : W p l e R s m args below meth c H locs cells slots Q (F0 m (pc + 3) ls (v :: rest))) : W p l e R s m args below meth c H locs cells slots Q (F0 m pc ls (.ref q :: rest)) := by
  obtain ⟨cf, k, fi, f, cell, h1, h2, h3, h4, h5, h6⟩ := hE.kept hS.2.1
  exact va_Wgetf hexec hb hown hlink (hsame _ h1) h2 h3 h4 (v := v) h5 rfl rfl hdg kk
end FTG
abbrev ft_gc (g : ft_G) (n c : Nat) : ft_G := (g.1, g.2.1, va_up g.2.2.1 n c, g.2.2.2)
abbrev ft_ga (g : ft_G) (n i : Nat) (v : Int32) : ft_G := (g.1, g.2.1, g.2.2.1, va_up g.2.2.2 n (va_up (g.2.2.2 n) i v))
theorem ft_R_ev {ad : Nat → Nat} {k : Nat → ClassId} {Z : Nat → Nat → Nat} {q : Nat → Nat → Int32} {pm : Nat → Nat} {o : Nat → Int32} {g : ft_G} {n : Nat} : ft_R ad k Z q pm o g (262 + 2 * n) = .inr (7, [.ref (Z 0 (g.2.2.1 n)), .ref (ad (263 + 2 * n))]) := by
  rw [show 262 + 2 * n = 253 + (2 * n + 9) by omega, ft_R_hi]
  show (if 2 * n % 2 = 0 then (.inr (7, [.ref (Z 0 (g.2.2.1 (2 * n / 2))), .ref (ad (263 + 2 * (2 * n / 2)))]) : va_E) else .inl (k 0, 3, .inl (g.2.2.2 (2 * n / 2)))) = _
  rw [if_pos (by omega), show 2 * n / 2 = n by omega]
theorem ft_R_od {ad : Nat → Nat} {k : Nat → ClassId} {Z : Nat → Nat → Nat} {q : Nat → Nat → Int32} {pm : Nat → Nat} {o : Nat → Int32} {g : ft_G} {n : Nat} : ft_R ad k Z q pm o g (263 + 2 * n) = .inl (k 0, 3, .inl (g.2.2.2 n)) := by
  rw [show 263 + 2 * n = 253 + (2 * n + 1 + 9) by omega, ft_R_hi]
  show (if (2 * n + 1) % 2 = 0 then (.inr (7, [.ref (Z 0 (g.2.2.1 ((2 * n + 1) / 2))), .ref (ad (263 + 2 * ((2 * n + 1) / 2)))]) : va_E) else .inl (k 0, 3, .inl (g.2.2.2 ((2 * n + 1) / 2)))) = _
  rw [if_neg (by omega), show (2 * n + 1) / 2 = n by omega]
theorem ft_R_st {ad : Nat → Nat} {k : Nat → ClassId} {Z : Nat → Nat → Nat} {q : Nat → Nat → Int32} {pm : Nat → Nat} {o : Nat → Int32} {g : ft_G} {n : Nat} (hn : n < 15) : (ft_WR ad k Z q pm o g)[262 + 2 * n]? = some (ad (262 + 2 * n), .inr (7, [.ref (Z 0 (g.2.2.1 n)), .ref (ad (263 + 2 * n))])) := ft_get' (by omega) ft_R_ev
theorem ft_R_sa {ad : Nat → Nat} {k : Nat → ClassId} {Z : Nat → Nat → Nat} {q : Nat → Nat → Int32} {pm : Nat → Nat} {o : Nat → Int32} {g : ft_G} {n : Nat} (hn : n < 15) : (ft_WR ad k Z q pm o g)[263 + 2 * n]? = some (ad (263 + 2 * n), .inl (k 0, 3, .inl (g.2.2.2 n))) := ft_get' (by omega) ft_R_od
theorem ft_R2_g {ad : Nat → Nat} {k : Nat → ClassId} {Z : Nat → Nat → Nat} {pm : Nat → Nat} {o : Nat → Int32} {g g' : ft_G} {y : Nat} (h1 : g.1 = g'.1) (h2 : g.2.1 = g'.2.1) (h3 : y = 9 + 2 * ((y - 9) / 2) → g.2.2.1 ((y - 9) / 2) = g'.2.2.1 ((y - 9) / 2)) (h4 : y = 10 + 2 * ((y - 9) / 2) → g.2.2.2 ((y - 9) / 2) = g'.2.2.2 ((y - 9) / 2)) : ft_R2 ad k Z pm o g y = ft_R2 ad k Z pm o g' y := by
  match y with
  | 0 => rfl
  | 1 => rfl
  | 2 => rfl
  | 3 => rfl
  | 4 => rfl
  | 5 => rfl
  | 6 => show (.inl (k 4, g.1.1, .inl g.1.2) : va_E) = .inl (k 4, g'.1.1, .inl g'.1.2); rw [h1]
  | 7 => rfl
  | 8 => show (.inl (k 4, g.2.1.1, .inl g.2.1.2) : va_E) = .inl (k 4, g'.2.1.1, .inl g'.2.1.2); rw [h2]
  | j + 9 =>
    have e9 : j + 9 - 9 = j := by omega
    rw [e9] at h3 h4
    show (if j % 2 = 0 then (.inr (7, [.ref (Z 0 (g.2.2.1 (j / 2))), .ref (ad (263 + 2 * (j / 2)))]) : va_E) else .inl (k 0, 3, .inl (g.2.2.2 (j / 2)))) = (if j % 2 = 0 then (.inr (7, [.ref (Z 0 (g'.2.2.1 (j / 2))), .ref (ad (263 + 2 * (j / 2)))]) : va_E) else .inl (k 0, 3, .inl (g'.2.2.2 (j / 2))))
    by_cases h : j % 2 = 0
    · rw [if_pos h, if_pos h, h3 (by omega)]
    · rw [if_neg h, if_neg h, h4 (by omega)]
theorem ft_R_c {ad : Nat → Nat} {k : Nat → ClassId} {Z : Nat → Nat → Nat} {q : Nat → Nat → Int32} {pm : Nat → Nat} {o : Nat → Int32} {g : ft_G} {n c : Nat} (hn : n < 15) : (ft_WR ad k Z q pm o g).set (262 + 2 * n) (ad (262 + 2 * n), .inr (7, [.ref (Z 0 c), .ref (ad (263 + 2 * n))])) = ft_WR ad k Z q pm o (ft_gc g n c) := by
  have e : (.inr (7, [.ref (Z 0 c), .ref (ad (263 + 2 * n))]) : va_E) = ft_R ad k Z q pm o (ft_gc g n c) (262 + 2 * n) := by
    rw [ft_R_ev]
    show _ = (.inr (7, [.ref (Z 0 (va_up g.2.2.1 n c n)), .ref (ad (263 + 2 * n))]) : va_E)
    rw [va_up_self]
  rw [e, show 262 + 2 * n = 253 + (2 * n + 9) by omega, ft_R_hi]
  refine ft_R_set2 (fun y hy => ?_)
  by_cases h : y = 2 * n + 9
  · subst h; rw [va_up_self]
  · rw [va_up_ne _ _ h]
    exact ft_R2_g rfl rfl (fun h3 => (va_up_ne _ _ (by omega)).symm) (fun _ => rfl)
theorem ft_R_a {ad : Nat → Nat} {k : Nat → ClassId} {Z : Nat → Nat → Nat} {q : Nat → Nat → Int32} {pm : Nat → Nat} {o : Nat → Int32} {g : ft_G} {n i : Nat} {v : Int32} (hn : n < 15) : (ft_WR ad k Z q pm o g).set (263 + 2 * n) (ad (263 + 2 * n), .inl (k 0, 3, .inl (upd (g.2.2.2 n) i v))) = ft_WR ad k Z q pm o (ft_ga g n i v) := by
  have e : (.inl (k 0, 3, .inl (upd (g.2.2.2 n) i v)) : va_E) = ft_R ad k Z q pm o (ft_ga g n i v) (263 + 2 * n) := by
    rw [ft_R_od]
    show _ = (.inl (k 0, 3, .inl (va_up g.2.2.2 n (va_up (g.2.2.2 n) i v) n)) : va_E)
    rw [va_up_self]
    refine congrArg (fun f => (.inl (k 0, 3, .inl f) : va_E)) (funext fun x => ?_)
    show upd (g.2.2.2 n) i v x = va_up (g.2.2.2 n) i v x
    by_cases hx : x = i
    · subst hx; rw [va_up_self]; exact if_pos rfl
    · rw [va_up_ne _ _ hx]; exact if_neg hx
  rw [e, show 263 + 2 * n = 253 + (2 * n + 10) by omega, ft_R_hi]
  refine ft_R_set2 (fun y hy => ?_)
  by_cases h : y = 2 * n + 10
  · subst h; rw [va_up_self]
  · rw [va_up_ne _ _ h]
    exact ft_R2_g rfl rfl (fun _ => rfl) (fun h3 => (va_up_ne _ _ (by omega)).symm)

def s_X3_hasAt (o : Nat → Int32) (g : ft_G) (x1 : Int32) (x2 : Int32) : Int32 := if x1 < 0 then (0) else (if (s_J4_length_8abf5 (o 8, o 6, g.1.1, g.1.2)) ≤ x1 then (0) else (if (s_J4_charAt_5068e (o 8, o 6, g.1.1, g.1.2) x1) = x2 then (1) else (0)))
set_option maxHeartbeats 4000000 in
set_option maxRecDepth 100000 in
theorem c_X3_hasAt (l : Launch) (dC : va_G) (Z : Nat → Nat → Nat) (ad : Nat → Nat) (k : Nat → ClassId) (q : Nat → Nat → Int32) (pm : Nat → Nat) (o : Nat → Int32) (g : ft_G) (x1 : Int32) (x2 : Int32) (hc1 : o 6 ≤ nI g.1.1) (hc2 : g.1.1 < 2 ^ 31) : Met l yX3_hasAt wsX3_hasAt ({ frames := 4, cells := 0, slots := 0, locals := 88 }) (ft_Pe dC k Z (ft_A 292 ad) [.ref (ad 256), .int x1, .int x2] (ft_WR ad k Z q pm o g)) (vp_Si (fun z : Int32 => z = s_X3_hasAt o g x1 x2)) 0 0 (fun _ => False) := by
  refine Met.ofW (cc := cX3_hasAt) (maxL := 3) (ret := (some .boolean)) (by decide) rfl ?_
  intro p e s m args below meth c s₁ B hml hv
  obtain ⟨hargs, hP, hE⟩ := hv
  have hK := hE.1
  subst hargs
  have hx := B.exec
  have hb := B.bytes
  have hr := B.returns
  have hts := atoms_spec (ws := wsX3_hasAt) B.pre
  have hown : s.vm.findClass RX3 = some m.cls := findClass_of_methodNamed B.named
  have hlocks := B.notSynchronized
  have hS : va_S (ft_A 292 ad) s.heap s.heap [] := va_S.rf
  have hl := lv_entry ([.ref (ad 256), .int x1, .int x2]) (n := 3) (Nat.le_of_ble_eq_true rfl)
  rw [lg_entry_eq]
  generalize (lg_sl ([.ref (ad 256), .int x1, .int x2]) ++ List.replicate (3 - (lg_sl ([.ref (ad 256), .int x1, .int x2])).length) Slot.unset).toArray = ls at hl ⊢
  have hl : lv_has ls 3 [(0, .ref (ad 256)), (1, .int (x1)), (2, .int (x2))] := hl
  have hsp := (s_X3_hasAt.eq_1 o g x1 x2).symm
  refine lv_iload_n hx hb dX3_hasAt_0 rfl (lv_at hl 1 rfl) ?_
  refine lv_if_lt (tgt := 31) hx hb dX3_hasAt_1 (by decide) (fun c_1 => ?_) (fun c_1 => ?_)
  · replace hsp := (if_pos c_1).symm.trans hsp
    refine lv_iconst (v := 0) hx hb dX3_hasAt_31 (by decide) ?_
    exact W.zret (v := 0) hx hb hr (rfl) (fun t ht hW => ft_endi (post := fun z : Int32 => z = s_X3_hasAt o g x1 x2) hsp ht) (fun _ h => absurd h List.not_mem_nil) dX3_hasAt_32
  · replace hsp := (if_neg c_1).symm.trans hsp
    refine lv_iload_n hx hb dX3_hasAt_4 rfl (lv_at hl 1 rfl) ?_
    refine lv_aload_n hx hb dX3_hasAt_5 rfl (lv_at hl 0 rfl) ?_
    refine va_get (D := dC) (ci := 5) (v := .ref (ad 258)) (C := RX3) (T := TX3) (N := 4) hx hb hts (by decide +kernel) hown hK.1 hP (253 + 3) (ft_get' (by decide) rfl) rfl 0 (by decide) (hts (.fieldLink RX3 12 "FoodTruckRota$Script" "text" "Ljava/lang/StringBuilder;") (by decide +kernel)) (fun _ h9 => h9) rfl dX3_hasAt_6 ?_
    refine vp_callSi (va_Run.run (va_runV (As := []) (rest := [.int (x1)]) ⟨hx, hb, hml, hown, hts⟩ (c_J4_length_8abf5 l dC (fun j => ad (258 + j)) k (o 8, o 6, g.1.1, g.1.2)) (cwV 0 hts gX3_hasAt_J4_length_8abf5 rfl rfl rfl (by decide +kernel) ⟨Nat.le_of_ble_eq_true rfl, Nat.le_of_ble_eq_true rfl⟩) (ft_preVc hK (ft_R_B1 hP) (ci := 1) rfl (ft_get' (by decide) rfl)) rfl rfl hl.1 rfl (lv_room (Nat.le_of_ble_eq_true rfl)) dX3_hasAt_9 ⟨Nat.le_of_ble_eq_true rfl, Nat.le_of_ble_eq_true rfl⟩)) (fun z hz => ?_)
    subst hz
    refine lv_icmp_ge (tgt := 31) hx hb dX3_hasAt_12 (by decide) (fun c_12 => ?_) (fun c_12 => ?_)
    · replace hsp := (if_pos c_12).symm.trans hsp
      refine lv_iconst (v := 0) hx hb dX3_hasAt_31 (by decide) ?_
      exact W.zret (v := 0) hx hb hr (rfl) (fun t ht hW => ft_endi (post := fun z : Int32 => z = s_X3_hasAt o g x1 x2) hsp ht) (fun _ h => absurd h List.not_mem_nil) dX3_hasAt_32
    · replace hsp := (if_neg c_12).symm.trans hsp
      refine lv_aload_n hx hb dX3_hasAt_15 rfl (lv_at hl 0 rfl) ?_
      refine va_get (D := dC) (ci := 5) (v := .ref (ad 258)) (C := RX3) (T := TX3) (N := 4) hx hb hts (by decide +kernel) hown hK.1 hP (253 + 3) (ft_get' (by decide) rfl) rfl 0 (by decide) (hts (.fieldLink RX3 12 "FoodTruckRota$Script" "text" "Ljava/lang/StringBuilder;") (by decide +kernel)) (fun _ h9 => h9) rfl dX3_hasAt_16 ?_
      refine lv_iload_n hx hb dX3_hasAt_19 rfl (lv_at hl 1 rfl) ?_
      refine vp_callSi (va_Run.run (va_runV (As := [.int (x1)]) (rest := []) ⟨hx, hb, hml, hown, hts⟩ (c_J4_charAt_5068e l dC Z (ft_A 292 ad) (fun j => ad (258 + j)) k (o 8, o 6, g.1.1, g.1.2) x1 c_1 (ft_nle c_12) hc2 hc1) (cwV 1 hts gX3_hasAt_J4_charAt_5068e rfl rfl rfl (by decide +kernel) ⟨Nat.le_of_ble_eq_true rfl, Nat.le_of_ble_eq_true rfl⟩) (ft_preVe hE hS (fun _ h => h) (ft_R_B1 hP) (ci := 1) rfl (ft_get' (by decide) rfl)) rfl rfl hl.1 rfl (lv_room (Nat.le_of_ble_eq_true rfl)) dX3_hasAt_20 ⟨Nat.le_of_ble_eq_true rfl, Nat.le_of_ble_eq_true rfl⟩)) (fun z hz => ?_)
      subst hz
      refine lv_iload_n hx hb dX3_hasAt_23 rfl (lv_at hl 2 rfl) ?_
      refine lv_icmp_ne (tgt := 31) hx hb dX3_hasAt_24 (by decide) (fun c_24 => ?_) (fun c_24 => ?_)
      · replace hsp := (if_neg c_24).symm.trans hsp
        refine lv_iconst (v := 0) hx hb dX3_hasAt_31 (by decide) ?_
        exact W.zret (v := 0) hx hb hr (rfl) (fun t ht hW => ft_endi (post := fun z : Int32 => z = s_X3_hasAt o g x1 x2) hsp ht) (fun _ h => absurd h List.not_mem_nil) dX3_hasAt_32
      · replace hsp := (if_pos c_24).symm.trans hsp
        refine lv_iconst (v := 1) hx hb dX3_hasAt_27 (by decide) ?_
        refine lv_goto (tgt := 32) hx hb dX3_hasAt_28 (by decide) ?_
        exact W.zret (v := 1) hx hb hr (rfl) (fun t ht hW => ft_endi (post := fun z : Int32 => z = s_X3_hasAt o g x1 x2) hsp ht) (fun _ h => absurd h List.not_mem_nil) dX3_hasAt_32

def s_X3_matchedSigns_L2 (o : Nat → Int32) (g : ft_G) (c1 : Nat) (K : Int32 → Int32) : Nat → Int32 → Int32
  | 0, y2_2 => K y2_2
  | n + 1, y2_2 => if (nI (ft_wln.getD c1 0)) ≤ y2_2 then (K y2_2) else (if (s_X3_hasAt o g ((o 5) + y2_2) (ft_ch (ft_wbf c1 (tn y2_2)))) = 0 then (K y2_2) else (s_X3_matchedSigns_L2 o g c1 K n (y2_2 + 1)))
def s_X3_matchedSigns (o : Nat → Int32) (g : ft_G) (c1 : Nat) : Int32 := s_X3_matchedSigns_L2 o g c1 (fun y2_2 => y2_2) (tn (nI (ft_wln.getD c1 0)) + 1) 0
set_option maxHeartbeats 4000000 in
set_option maxRecDepth 100000 in
theorem c_X3_matchedSigns (l : Launch) (dC : va_G) (Z : Nat → Nat → Nat) (ad : Nat → Nat) (k : Nat → ClassId) (q : Nat → Nat → Int32) (pm : Nat → Nat) (o : Nat → Int32) (g : ft_G) (c1 : Nat) (hc9 : c1 < 9) (hc1 : o 6 ≤ nI g.1.1) (hc2 : g.1.1 < 2 ^ 31) : Met l yX3_matchedSigns wsX3_matchedSigns ({ frames := 5, cells := 0, slots := 0, locals := 111 }) (ft_Pe dC k Z (ft_A 292 ad) [.ref (ad 256), .ref (Z 1 c1)] (ft_WR ad k Z q pm o g)) (vp_Si (fun z : Int32 => z = s_X3_matchedSigns o g c1)) 0 0 (fun _ => False) := by
  refine Met.ofW (cc := cX3_matchedSigns) (maxL := 3) (ret := (some .int)) (by decide) rfl ?_
  intro p e s m args below meth c s₁ B hml hv
  obtain ⟨hargs, hP, hE⟩ := hv
  have hK := hE.1
  subst hargs
  have hx := B.exec
  have hb := B.bytes
  have hr := B.returns
  have hts := atoms_spec (ws := wsX3_matchedSigns) B.pre
  have hown : s.vm.findClass RX3 = some m.cls := findClass_of_methodNamed B.named
  have hlocks := B.notSynchronized
  have hS : va_S (ft_A 292 ad) s.heap s.heap [] := va_S.rf
  have hl := lv_entry ([.ref (ad 256), .ref (Z 1 c1)]) (n := 3) (Nat.le_of_ble_eq_true rfl)
  rw [lg_entry_eq]
  generalize (lg_sl ([.ref (ad 256), .ref (Z 1 c1)]) ++ List.replicate (3 - (lg_sl ([.ref (ad 256), .ref (Z 1 c1)])).length) Slot.unset).toArray = ls at hl ⊢
  have hl : lv_has ls 3 [(0, .ref (ad 256)), (1, .ref (Z 1 c1))] := hl
  have hsp := (s_X3_matchedSigns.eq_1 o g c1).symm
  refine lv_iconst (v := 0) hx hb dX3_matchedSigns_0 (by decide) ?_
  refine lv_istore_n (lv' := [(2, .int (0)), (0, .ref (ad 256)), (1, .ref (Z 1 c1))]) hx hb dX3_matchedSigns_1 rfl hl (by decide) rfl (fun ls hl => ?_)
  have loop_2 : ∀ (K : Int32 → Int32) (hKx : ∀ (y2_2 : Int32) (i_2 : Nat) (hi_2 : y2_2 = nI i_2) (hm_2 : i_2 ≤ tn (nI (ft_wln.getD c1 0))) (ls : Array Slot) (hl : lv_has ls 3 [(2, .int (y2_2)), (0, .ref (ad 256)), (1, .ref (Z 1 c1))]) (hsp : K y2_2 = s_X3_matchedSigns o g c1), W p l e (headSpec wsX3_matchedSigns ({ frames := 5, cells := 0, slots := 0, locals := 111 })).room s m ([.ref (ad 256), .ref (Z 1 c1)] : List Value).toArray below meth c s.heap [] 0 0 (MQ below (vp_Si (fun z : Int32 => z = s_X3_matchedSigns o g c1)) ([.ref (ad 256), .ref (Z 1 c1)] : List Value).toArray s 0 0 (fun _ => False)) (F0 m 34 ls [])) (n_2 : Nat), ∀ (y2_2 : Int32) (i_2 : Nat) (hi_2 : y2_2 = nI i_2) (hm_2 : i_2 ≤ tn (nI (ft_wln.getD c1 0))) (hn_2 : tn (nI (ft_wln.getD c1 0)) < n_2 + i_2) (ls : Array Slot) (hl : lv_has ls 3 [(2, .int (y2_2)), (0, .ref (ad 256)), (1, .ref (Z 1 c1))]) (hsp : s_X3_matchedSigns_L2 o g c1 K n_2 y2_2 = s_X3_matchedSigns o g c1), W p l e (headSpec wsX3_matchedSigns ({ frames := 5, cells := 0, slots := 0, locals := 111 })).room s m ([.ref (ad 256), .ref (Z 1 c1)] : List Value).toArray below meth c s.heap [] 0 0 (MQ below (vp_Si (fun z : Int32 => z = s_X3_matchedSigns o g c1)) ([.ref (ad 256), .ref (Z 1 c1)] : List Value).toArray s 0 0 (fun _ => False)) (F0 m 2 ls []) := by
    intro K hKx n_2
    induction n_2 with
    | zero => intro y2_2 i_2 hi_2 hm_2 hn_2; exact absurd hn_2 (by omega)
    | succ n ih_2 =>
      intro y2_2 i_2 hi_2 hm_2 hn_2 ls hl hsp
      rw [s_X3_matchedSigns_L2] at hsp
      refine lv_iload_n hx hb dX3_matchedSigns_2 rfl (lv_at hl 0 rfl) ?_
      refine lv_aload_n hx hb dX3_matchedSigns_3 rfl (lv_at hl 2 rfl) ?_
      refine vp_callSi (va_Run.run (va_runV (As := []) (rest := [.int (y2_2)]) ⟨hx, hb, hml, hown, hts⟩ (c_J0_length_8abf5 l dC Z (ft_A 292 ad) k (Z 1 c1) (Z 2 c1) (ft_wln.getD c1 0) (ft_wbf c1)) (cwV 0 hts gX3_matchedSigns_J0_length_8abf5 rfl rfl rfl (by decide +kernel) ⟨Nat.le_of_ble_eq_true rfl, Nat.le_of_ble_eq_true rfl⟩) (ft_preVx hE hS (fun _ h => h) (hE.2.2.st.1 c1 hc9)) rfl rfl hl.1 rfl (lv_room (Nat.le_of_ble_eq_true rfl)) dX3_matchedSigns_4 ⟨Nat.le_of_ble_eq_true rfl, Nat.le_of_ble_eq_true rfl⟩)) (fun z hz => ?_)
      subst hz
      refine lv_icmp_ge (tgt := 34) hx hb dX3_matchedSigns_7 (by decide) (fun c_7 => ?_) (fun c_7 => ?_)
      · replace hsp := (if_pos c_7).symm.trans hsp
        exact hKx y2_2 i_2 hi_2 hm_2 ls (lv_sub hl [0, 1, 2] rfl) hsp
      · replace hsp := (if_neg c_7).symm.trans hsp
        have hlt_2 := ft_step hi_2 hm_2 c_7
        refine lv_aload_n hx hb dX3_matchedSigns_10 rfl (lv_at hl 1 rfl) ?_
        refine lv_aload_n hx hb dX3_matchedSigns_11 rfl (lv_at hl 1 rfl) ?_
        refine va_get (D := dC) (ci := 5) (v := .int (o 5)) (C := RX3) (T := TX3) (N := 4) hx hb hts (by decide +kernel) hown hK.1 hP (253 + 3) (ft_get' (by decide) rfl) rfl 3 (by decide) (hts (.fieldLink RX3 25 "FoodTruckRota$Script" "position" "I") (by decide +kernel)) (fun _ h9 => h9) rfl dX3_matchedSigns_12 ?_
        refine lv_iload_n hx hb dX3_matchedSigns_15 rfl (lv_at hl 0 rfl) ?_
        refine lv_iadd hx hb dX3_matchedSigns_16 ?_
        refine lv_aload_n hx hb dX3_matchedSigns_17 rfl (lv_at hl 2 rfl) ?_
        refine lv_iload_n hx hb dX3_matchedSigns_18 rfl (lv_at hl 0 rfl) ?_
        refine vp_callSi (va_Run.run (va_runV (As := [.int (y2_2)]) (rest := [.int ((o 5) + y2_2), .ref (ad 256)]) ⟨hx, hb, hml, hown, hts⟩ (c_J0_charAt_5068e l dC Z (ft_A 292 ad) k (Z 1 c1) (Z 2 c1) (ft_wln.getD c1 0) (ft_wbf c1) y2_2 (tn y2_2) (ft_wj hc9 hi_2 hlt_2).1 (ft_wj hc9 hi_2 hlt_2).2 (ft_wl31 hc9)) (cwV 1 hts gX3_matchedSigns_J0_charAt_5068e rfl rfl rfl (by decide +kernel) ⟨Nat.le_of_ble_eq_true rfl, Nat.le_of_ble_eq_true rfl⟩) (ft_preVx hE hS (fun _ h => h) (hE.2.2.st.1 c1 hc9)) rfl rfl hl.1 rfl (lv_room (Nat.le_of_ble_eq_true rfl)) dX3_matchedSigns_19 ⟨Nat.le_of_ble_eq_true rfl, Nat.le_of_ble_eq_true rfl⟩)) (fun z hz => ?_)
        subst hz
        refine vp_callSi (va_Run.run (va_runV (As := [.int ((o 5) + y2_2), .int (ft_ch (ft_wbf c1 (tn y2_2)))]) (rest := []) ⟨hx, hb, hml, hown, hts⟩ (c_X3_hasAt l dC Z ad k q pm o g ((o 5) + y2_2) (ft_ch (ft_wbf c1 (tn y2_2)))  hc1 hc2) (cwV 2 hts gX3_matchedSigns_X3_hasAt rfl rfl rfl (by decide +kernel) ⟨Nat.le_of_ble_eq_true rfl, Nat.le_of_ble_eq_true rfl⟩) (ft_preVg hE hS (fun _ h => h) hP (ci := 5) (q0 := (253 + 3)) rfl (ft_get' (by decide) rfl)) rfl rfl hl.1 rfl (lv_room (Nat.le_of_ble_eq_true rfl)) dX3_matchedSigns_22 ⟨Nat.le_of_ble_eq_true rfl, Nat.le_of_ble_eq_true rfl⟩)) (fun z hz => ?_)
        subst hz
        refine lv_if_eq (tgt := 34) hx hb dX3_matchedSigns_25 (by decide) (fun c_25 => ?_) (fun c_25 => ?_)
        · replace hsp := (if_pos c_25).symm.trans hsp
          exact hKx y2_2 i_2 hi_2 hm_2 ls (lv_sub hl [0, 1, 2] rfl) hsp
        · replace hsp := (if_neg c_25).symm.trans hsp
          refine lv_iinc (v := y2_2 + 1) (lv' := [(2, .int (y2_2 + 1)), (0, .ref (ad 256)), (1, .ref (Z 1 c1))]) hx hb dX3_matchedSigns_28 hl (k := 0) rfl rfl (by decide) rfl (fun ls hl => ?_)
          refine lv_goto (tgt := 2) hx hb dX3_matchedSigns_31 (by decide) ?_
          exact ih_2 (y2_2 + 1) (i_2 + 1) (by rw [hi_2, nI_1]) hlt_2 (by omega) ls (lv_sub hl [0, 1, 2] rfl) hsp
  refine loop_2 _ (fun y2_2 i_2 hi_2 hm_2 ls hl hsp => ?_) (tn (nI (ft_wln.getD c1 0)) + 1) 0 0 rfl (by omega) (by omega) ls (lv_sub hl [0, 1, 2] rfl) hsp
  refine lv_iload_n hx hb dX3_matchedSigns_34 rfl (lv_at hl 0 rfl) ?_
  exact W.iret (v := y2_2) hx hb hr (fun t ht hW => ft_endi (post := fun z : Int32 => z = s_X3_matchedSigns o g c1) hsp ht) (fun _ h => absurd h List.not_mem_nil) dX3_matchedSigns_35

def s_X3_readSign (o : Nat → Int32) (g : ft_G) (x1 : Int32) : Int32 × (Nat → Int32) := if (s_X3_hasAt o g (o 5) x1) = 0 then ((0, o)) else ((1, (va_up o 5 ((o 5) + 1))))
set_option maxHeartbeats 4000000 in
set_option maxRecDepth 100000 in
theorem c_X3_readSign (l : Launch) (dC : va_G) (Z : Nat → Nat → Nat) (ad : Nat → Nat) (k : Nat → ClassId) (q : Nat → Nat → Int32) (pm : Nat → Nat) (o : Nat → Int32) (g : ft_G) (x1 : Int32) (hc1 : o 6 ≤ nI g.1.1) (hc2 : g.1.1 < 2 ^ 31) : Met l yX3_readSign wsX3_readSign ({ frames := 5, cells := 0, slots := 0, locals := 110 }) (ft_Pf dC k Z (ft_A 292 ad) [.ref (ad 256), .int x1] (ft_WR ad k Z q pm o g)) (va_Qi (fun (z : Int32) (u : (Nat → Int32)) => (z, u) = s_X3_readSign o g x1) (fun (u : (Nat → Int32)) (t : State) => va_P dC vwCl (ft_WR ad k Z q pm u g) t.heap) (ft_A 292 ad)) 0 0 (ft_A 292 ad) := by
  refine Met.ofW (cc := cX3_readSign) (maxL := 2) (ret := (some .boolean)) (by decide) rfl ?_
  intro p e s m args below meth c s₁ B hml hv
  obtain ⟨hargs, hP, hE, hD0⟩ := hv
  have hK := hE.1
  subst hargs
  have hx := B.exec
  have hb := B.bytes
  have hr := B.returns
  have hts := atoms_spec (ws := wsX3_readSign) B.pre
  have hown : s.vm.findClass RX3 = some m.cls := findClass_of_methodNamed B.named
  have hlocks := B.notSynchronized
  have hD := ft_D_self hD0
  have hS : va_S (ft_A 292 ad) s.heap s.heap [] := va_S.rf
  have hl := lv_entry ([.ref (ad 256), .int x1]) (n := 2) (Nat.le_of_ble_eq_true rfl)
  rw [lg_entry_eq]
  generalize (lg_sl ([.ref (ad 256), .int x1]) ++ List.replicate (2 - (lg_sl ([.ref (ad 256), .int x1])).length) Slot.unset).toArray = ls at hl ⊢
  have hl : lv_has ls 2 [(0, .ref (ad 256)), (1, .int (x1))] := hl
  have hsp := (s_X3_readSign.eq_1 o g x1).symm
  refine lv_aload_n hx hb dX3_readSign_0 rfl (lv_at hl 0 rfl) ?_
  refine lv_aload_n hx hb dX3_readSign_1 rfl (lv_at hl 0 rfl) ?_
  refine va_get (D := dC) (ci := 5) (v := .int (o 5)) (C := RX3) (T := TX3) (N := 4) hx hb hts (by decide +kernel) hown hK.1 hP (253 + 3) (ft_get' (by decide) rfl) rfl 3 (by decide) (hts (.fieldLink RX3 25 "FoodTruckRota$Script" "position" "I") (by decide +kernel)) (fun _ h9 => h9) rfl dX3_readSign_2 ?_
  refine lv_iload_n hx hb dX3_readSign_5 rfl (lv_at hl 1 rfl) ?_
  refine vp_callSi (va_Run.run (va_runV (As := [.int (o 5), .int (x1)]) (rest := []) ⟨hx, hb, hml, hown, hts⟩ (c_X3_hasAt l dC Z ad k q pm o g (o 5) x1  hc1 hc2) (cwV 2 hts gX3_readSign_X3_hasAt rfl rfl rfl (by decide +kernel) ⟨Nat.le_of_ble_eq_true rfl, Nat.le_of_ble_eq_true rfl⟩) (ft_preVg hE hS (fun _ h => h) hP (ci := 5) (q0 := (253 + 3)) rfl (ft_get' (by decide) rfl)) rfl rfl hl.1 rfl (lv_room (Nat.le_of_ble_eq_true rfl)) dX3_readSign_6 ⟨Nat.le_of_ble_eq_true rfl, Nat.le_of_ble_eq_true rfl⟩)) (fun z hz => ?_)
  subst hz
  refine lv_if_ne (tgt := 14) hx hb dX3_readSign_9 (by decide) (fun c_9 => ?_) (fun c_9 => ?_)
  · replace hsp := (if_neg c_9).symm.trans hsp
    refine lv_aload_n hx hb dX3_readSign_14 rfl (lv_at hl 0 rfl) ?_
    refine lv_dup hx hb dX3_readSign_15 rfl ?_
    refine va_get (D := dC) (ci := 5) (v := .int (o 5)) (C := RX3) (T := TX3) (N := 4) hx hb hts (by decide +kernel) hown hK.1 hP (253 + 3) (ft_get' (by decide) rfl) rfl 3 (by decide) (hts (.fieldLink RX3 25 "FoodTruckRota$Script" "position" "I") (by decide +kernel)) (fun _ h9 => h9) rfl dX3_readSign_16 ?_
    refine lv_iconst (v := 1) hx hb dX3_readSign_19 (by decide) ?_
    refine lv_iadd hx hb dX3_readSign_20 ?_
    refine va_put (D := dC) (ci := 5) (v := .int ((o 5) + 1)) (ty := .int) (C := RX3) (T := TX3) (N := 4) hx hb hts (by decide +kernel) tyX3 tyX3_ok nmX3 hown hK.1 hP hD hS (253 + 3) (ft_get' (by decide) rfl) rfl 3 (by decide) (hts (.fieldLink RX3 25 "FoodTruckRota$Script" "position" "I") (by decide +kernel)) (fun _ h9 => h9) rfl (by decide +kernel) rfl rfl (Nat.le_of_ble_eq_true rfl) dX3_readSign_21 (fun H locs hP hD hS => ?_)
    have hP := ft_cast hP (ft_R_p5)
    have hD := ft_castD hD (ft_R_p5)
    have hP : va_P dC vwCl (ft_WR ad k Z q pm (va_up o 5 ((o 5) + 1)) g) H := hP
    have hD : va_D (ft_A 292 ad) (ft_WR ad k Z q pm (va_up o 5 ((o 5) + 1)) g) := hD
    refine lv_iconst (v := 1) hx hb dX3_readSign_24 (by decide) ?_
    exact W.zret (v := 1) hx hb hr (rfl) (fun t ht hW => ⟨⟨1, (va_up o 5 ((o 5) + 1)), rfl, hsp, ft_heap ht hP⟩, hS.F ht⟩) hS.2.2 dX3_readSign_25
  · replace hsp := (if_pos c_9).symm.trans hsp
    refine lv_iconst (v := 0) hx hb dX3_readSign_12 (by decide) ?_
    exact W.zret (v := 0) hx hb hr (rfl) (fun t ht hW => ⟨⟨0, o, rfl, hsp, ft_heap ht hP⟩, hS.F ht⟩) hS.2.2 dX3_readSign_13

def s_X3_readDigit (o : Nat → Int32) (g : ft_G)  : Int32 × (Nat → Int32) := if (o 5) < 0 then (((-1), o)) else (if (o 5) < (s_J4_length_8abf5 (o 8, o 6, g.1.1, g.1.2)) then (if (s_J4_charAt_5068e (o 8, o 6, g.1.1, g.1.2) (o 5)) < 48 then (((-1), o)) else (if (s_J4_charAt_5068e (o 8, o 6, g.1.1, g.1.2) (o 5)) ≤ 57 then (((s_J4_charAt_5068e (o 8, o 6, g.1.1, g.1.2) (o 5)) - 48, (va_up o 5 ((o 5) + 1)))) else (((-1), o)))) else (((-1), o)))
set_option maxHeartbeats 4000000 in
set_option maxRecDepth 100000 in
theorem c_X3_readDigit (l : Launch) (dC : va_G) (Z : Nat → Nat → Nat) (ad : Nat → Nat) (k : Nat → ClassId) (q : Nat → Nat → Int32) (pm : Nat → Nat) (o : Nat → Int32) (g : ft_G)  (hc1 : o 6 ≤ nI g.1.1) (hc2 : g.1.1 < 2 ^ 31) : Met l yX3_readDigit wsX3_readDigit ({ frames := 4, cells := 0, slots := 0, locals := 88 }) (ft_Pf dC k Z (ft_A 292 ad) [.ref (ad 256)] (ft_WR ad k Z q pm o g)) (va_Qi (fun (z : Int32) (u : (Nat → Int32)) => (z, u) = s_X3_readDigit o g) (fun (u : (Nat → Int32)) (t : State) => va_P dC vwCl (ft_WR ad k Z q pm u g) t.heap) (ft_A 292 ad)) 0 0 (ft_A 292 ad) := by
  refine Met.ofW (cc := cX3_readDigit) (maxL := 2) (ret := (some .int)) (by decide) rfl ?_
  intro p e s m args below meth c s₁ B hml hv
  obtain ⟨hargs, hP, hE, hD0⟩ := hv
  have hK := hE.1
  subst hargs
  have hx := B.exec
  have hb := B.bytes
  have hr := B.returns
  have hts := atoms_spec (ws := wsX3_readDigit) B.pre
  have hown : s.vm.findClass RX3 = some m.cls := findClass_of_methodNamed B.named
  have hlocks := B.notSynchronized
  have hD := ft_D_self hD0
  have hS : va_S (ft_A 292 ad) s.heap s.heap [] := va_S.rf
  have hl := lv_entry ([.ref (ad 256)]) (n := 2) (Nat.le_of_ble_eq_true rfl)
  rw [lg_entry_eq]
  generalize (lg_sl ([.ref (ad 256)]) ++ List.replicate (2 - (lg_sl ([.ref (ad 256)])).length) Slot.unset).toArray = ls at hl ⊢
  have hl : lv_has ls 2 [(0, .ref (ad 256))] := hl
  have hsp := (s_X3_readDigit.eq_1 o g ).symm
  refine lv_aload_n hx hb dX3_readDigit_0 rfl (lv_at hl 0 rfl) ?_
  refine va_get (D := dC) (ci := 5) (v := .int (o 5)) (C := RX3) (T := TX3) (N := 4) hx hb hts (by decide +kernel) hown hK.1 hP (253 + 3) (ft_get' (by decide) rfl) rfl 3 (by decide) (hts (.fieldLink RX3 25 "FoodTruckRota$Script" "position" "I") (by decide +kernel)) (fun _ h9 => h9) rfl dX3_readDigit_1 ?_
  refine lv_if_lt (tgt := 21) hx hb dX3_readDigit_4 (by decide) (fun c_4 => ?_) (fun c_4 => ?_)
  · replace hsp := (if_pos c_4).symm.trans hsp
    refine lv_iconst (v := (-1)) hx hb dX3_readDigit_21 (by decide) ?_
    exact W.iret (v := (-1)) hx hb hr (fun t ht hW => ⟨⟨(-1), o, rfl, hsp, ft_heap ht hP⟩, hS.F ht⟩) hS.2.2 dX3_readDigit_22
  · replace hsp := (if_neg c_4).symm.trans hsp
    refine lv_aload_n hx hb dX3_readDigit_7 rfl (lv_at hl 0 rfl) ?_
    refine va_get (D := dC) (ci := 5) (v := .int (o 5)) (C := RX3) (T := TX3) (N := 4) hx hb hts (by decide +kernel) hown hK.1 hP (253 + 3) (ft_get' (by decide) rfl) rfl 3 (by decide) (hts (.fieldLink RX3 25 "FoodTruckRota$Script" "position" "I") (by decide +kernel)) (fun _ h9 => h9) rfl dX3_readDigit_8 ?_
    refine lv_aload_n hx hb dX3_readDigit_11 rfl (lv_at hl 0 rfl) ?_
    refine va_get (D := dC) (ci := 5) (v := .ref (ad 258)) (C := RX3) (T := TX3) (N := 4) hx hb hts (by decide +kernel) hown hK.1 hP (253 + 3) (ft_get' (by decide) rfl) rfl 0 (by decide) (hts (.fieldLink RX3 12 "FoodTruckRota$Script" "text" "Ljava/lang/StringBuilder;") (by decide +kernel)) (fun _ h9 => h9) rfl dX3_readDigit_12 ?_
    refine vp_callSi (va_Run.run (va_runV (As := []) (rest := [.int (o 5)]) ⟨hx, hb, hml, hown, hts⟩ (c_J4_length_8abf5 l dC (fun j => ad (258 + j)) k (o 8, o 6, g.1.1, g.1.2)) (cwV 0 hts gX3_readDigit_J4_length_8abf5 rfl rfl rfl (by decide +kernel) ⟨Nat.le_of_ble_eq_true rfl, Nat.le_of_ble_eq_true rfl⟩) (ft_preVc hK (ft_R_B1 hP) (ci := 1) rfl (ft_get' (by decide) rfl)) rfl rfl hl.1 rfl (lv_room (Nat.le_of_ble_eq_true rfl)) dX3_readDigit_15 ⟨Nat.le_of_ble_eq_true rfl, Nat.le_of_ble_eq_true rfl⟩)) (fun z hz => ?_)
    subst hz
    refine lv_icmp_lt (tgt := 23) hx hb dX3_readDigit_18 (by decide) (fun c_18 => ?_) (fun c_18 => ?_)
    · replace hsp := (if_pos c_18).symm.trans hsp
      refine lv_aload_n hx hb dX3_readDigit_23 rfl (lv_at hl 0 rfl) ?_
      refine va_get (D := dC) (ci := 5) (v := .ref (ad 258)) (C := RX3) (T := TX3) (N := 4) hx hb hts (by decide +kernel) hown hK.1 hP (253 + 3) (ft_get' (by decide) rfl) rfl 0 (by decide) (hts (.fieldLink RX3 12 "FoodTruckRota$Script" "text" "Ljava/lang/StringBuilder;") (by decide +kernel)) (fun _ h9 => h9) rfl dX3_readDigit_24 ?_
      refine lv_aload_n hx hb dX3_readDigit_27 rfl (lv_at hl 0 rfl) ?_
      refine va_get (D := dC) (ci := 5) (v := .int (o 5)) (C := RX3) (T := TX3) (N := 4) hx hb hts (by decide +kernel) hown hK.1 hP (253 + 3) (ft_get' (by decide) rfl) rfl 3 (by decide) (hts (.fieldLink RX3 25 "FoodTruckRota$Script" "position" "I") (by decide +kernel)) (fun _ h9 => h9) rfl dX3_readDigit_28 ?_
      refine vp_callSi (va_Run.run (va_runV (As := [.int (o 5)]) (rest := []) ⟨hx, hb, hml, hown, hts⟩ (c_J4_charAt_5068e l dC Z (ft_A 292 ad) (fun j => ad (258 + j)) k (o 8, o 6, g.1.1, g.1.2) (o 5) c_4 c_18 hc2 hc1) (cwV 1 hts gX3_readDigit_J4_charAt_5068e rfl rfl rfl (by decide +kernel) ⟨Nat.le_of_ble_eq_true rfl, Nat.le_of_ble_eq_true rfl⟩) (ft_preVe hE hS (fun _ h => h) (ft_R_B1 hP) (ci := 1) rfl (ft_get' (by decide) rfl)) rfl rfl hl.1 rfl (lv_room (Nat.le_of_ble_eq_true rfl)) dX3_readDigit_31 ⟨Nat.le_of_ble_eq_true rfl, Nat.le_of_ble_eq_true rfl⟩)) (fun z hz => ?_)
      subst hz
      refine lv_istore_n (lv' := [(1, .int ((s_J4_charAt_5068e (o 8, o 6, g.1.1, g.1.2) (o 5)))), (0, .ref (ad 256))]) hx hb dX3_readDigit_34 rfl hl (by decide) rfl (fun ls hl => ?_)
      refine lv_iload_n hx hb dX3_readDigit_35 rfl (lv_at hl 0 rfl) ?_
      refine lv_bipush (v := 48) hx hb dX3_readDigit_36 (by decide) ?_
      refine lv_icmp_lt (tgt := 47) hx hb dX3_readDigit_38 (by decide) (fun c_38 => ?_) (fun c_38 => ?_)
      · replace hsp := (if_pos c_38).symm.trans hsp
        refine lv_iconst (v := (-1)) hx hb dX3_readDigit_47 (by decide) ?_
        exact W.iret (v := (-1)) hx hb hr (fun t ht hW => ⟨⟨(-1), o, rfl, hsp, ft_heap ht hP⟩, hS.F ht⟩) hS.2.2 dX3_readDigit_48
      · replace hsp := (if_neg c_38).symm.trans hsp
        refine lv_iload_n hx hb dX3_readDigit_41 rfl (lv_at hl 0 rfl) ?_
        refine lv_bipush (v := 57) hx hb dX3_readDigit_42 (by decide) ?_
        refine lv_icmp_le (tgt := 49) hx hb dX3_readDigit_44 (by decide) (fun c_44 => ?_) (fun c_44 => ?_)
        · replace hsp := (if_pos c_44).symm.trans hsp
          refine lv_aload_n hx hb dX3_readDigit_49 rfl (lv_at hl 1 rfl) ?_
          refine lv_dup hx hb dX3_readDigit_50 rfl ?_
          refine va_get (D := dC) (ci := 5) (v := .int (o 5)) (C := RX3) (T := TX3) (N := 4) hx hb hts (by decide +kernel) hown hK.1 hP (253 + 3) (ft_get' (by decide) rfl) rfl 3 (by decide) (hts (.fieldLink RX3 25 "FoodTruckRota$Script" "position" "I") (by decide +kernel)) (fun _ h9 => h9) rfl dX3_readDigit_51 ?_
          refine lv_iconst (v := 1) hx hb dX3_readDigit_54 (by decide) ?_
          refine lv_iadd hx hb dX3_readDigit_55 ?_
          refine va_put (D := dC) (ci := 5) (v := .int ((o 5) + 1)) (ty := .int) (C := RX3) (T := TX3) (N := 4) hx hb hts (by decide +kernel) tyX3 tyX3_ok nmX3 hown hK.1 hP hD hS (253 + 3) (ft_get' (by decide) rfl) rfl 3 (by decide) (hts (.fieldLink RX3 25 "FoodTruckRota$Script" "position" "I") (by decide +kernel)) (fun _ h9 => h9) rfl (by decide +kernel) rfl rfl (Nat.le_of_ble_eq_true rfl) dX3_readDigit_56 (fun H locs hP hD hS => ?_)
          have hP := ft_cast hP (ft_R_p5)
          have hD := ft_castD hD (ft_R_p5)
          have hP : va_P dC vwCl (ft_WR ad k Z q pm (va_up o 5 ((o 5) + 1)) g) H := hP
          have hD : va_D (ft_A 292 ad) (ft_WR ad k Z q pm (va_up o 5 ((o 5) + 1)) g) := hD
          refine lv_iload_n hx hb dX3_readDigit_59 rfl (lv_at hl 0 rfl) ?_
          refine lv_bipush (v := 48) hx hb dX3_readDigit_60 (by decide) ?_
          refine lv_isub hx hb dX3_readDigit_62 ?_
          exact W.iret (v := (s_J4_charAt_5068e (o 8, o 6, g.1.1, g.1.2) (o 5)) - 48) hx hb hr (fun t ht hW => ⟨⟨(s_J4_charAt_5068e (o 8, o 6, g.1.1, g.1.2) (o 5)) - 48, (va_up o 5 ((o 5) + 1)), rfl, hsp, ft_heap ht hP⟩, hS.F ht⟩) hS.2.2 dX3_readDigit_63
        · replace hsp := (if_neg c_44).symm.trans hsp
          refine lv_iconst (v := (-1)) hx hb dX3_readDigit_47 (by decide) ?_
          exact W.iret (v := (-1)) hx hb hr (fun t ht hW => ⟨⟨(-1), o, rfl, hsp, ft_heap ht hP⟩, hS.F ht⟩) hS.2.2 dX3_readDigit_48
    · replace hsp := (if_neg c_18).symm.trans hsp
      refine lv_iconst (v := (-1)) hx hb dX3_readDigit_21 (by decide) ?_
      exact W.iret (v := (-1)) hx hb hr (fun t ht hW => ⟨⟨(-1), o, rfl, hsp, ft_heap ht hP⟩, hS.F ht⟩) hS.2.2 dX3_readDigit_22

theorem ox_readSign {o : Nat → Int32} {g : ft_G} {x : Int32} {i : Nat} (hi : i ≠ 5) : (s_X3_readSign o g x).2 i = o i := by
  unfold s_X3_readSign
  split
  · rfl
  · exact va_up_ne _ _ hi
theorem ox_readDigit {o : Nat → Int32} {g : ft_G} {i : Nat} (hi : i ≠ 5) : (s_X3_readDigit o g).2 i = o i := by
  unfold s_X3_readDigit
  repeat' split
  all_goals first
    | rfl
    | exact va_up_ne _ _ hi

def s_X3_readArgument (o : Nat → Int32) (g : ft_G) (x1 : Int32) : Int32 × (Nat → Int32) := if ((s_X3_readSign o g 32).1) = 0 then (((-1), ((s_X3_readSign o g 32).2))) else (if ((s_X3_readDigit ((s_X3_readSign o g 32).2) g).1) = (-1) then (((s_X3_readDigit ((s_X3_readSign o g 32).2) g).1, ((s_X3_readDigit ((s_X3_readSign o g 32).2) g).2))) else (if x1 = 0 then (((s_X3_readDigit ((s_X3_readSign o g 32).2) g).1, ((s_X3_readDigit ((s_X3_readSign o g 32).2) g).2))) else (if ((s_X3_readDigit ((s_X3_readDigit ((s_X3_readSign o g 32).2) g).2) g).1) = (-1) then (((s_X3_readDigit ((s_X3_readSign o g 32).2) g).1, ((s_X3_readDigit ((s_X3_readDigit ((s_X3_readSign o g 32).2) g).2) g).2))) else (((((s_X3_readDigit ((s_X3_readSign o g 32).2) g).1) * 10) + ((s_X3_readDigit ((s_X3_readDigit ((s_X3_readSign o g 32).2) g).2) g).1), ((s_X3_readDigit ((s_X3_readDigit ((s_X3_readSign o g 32).2) g).2) g).2))))))
set_option maxHeartbeats 4000000 in
set_option maxRecDepth 100000 in
theorem c_X3_readArgument (l : Launch) (dC : va_G) (Z : Nat → Nat → Nat) (ad : Nat → Nat) (k : Nat → ClassId) (q : Nat → Nat → Int32) (pm : Nat → Nat) (o : Nat → Int32) (g : ft_G) (x1 : Int32) (hc1 : o 6 ≤ nI g.1.1) (hc2 : g.1.1 < 2 ^ 31) : Met l yX3_readArgument wsX3_readArgument ({ frames := 6, cells := 0, slots := 0, locals := 131 }) (ft_Pf dC k Z (ft_A 292 ad) [.ref (ad 256), .int x1] (ft_WR ad k Z q pm o g)) (va_Qi (fun (z : Int32) (u : (Nat → Int32)) => (z, u) = s_X3_readArgument o g x1) (fun (u : (Nat → Int32)) (t : State) => va_P dC vwCl (ft_WR ad k Z q pm u g) t.heap) (ft_A 292 ad)) 0 0 (ft_A 292 ad) := by
  refine Met.ofW (cc := cX3_readArgument) (maxL := 4) (ret := (some .int)) (by decide) rfl ?_
  intro p e s m args below meth c s₁ B hml hv
  obtain ⟨hargs, hP, hE, hD0⟩ := hv
  have hK := hE.1
  subst hargs
  have hx := B.exec
  have hb := B.bytes
  have hr := B.returns
  have hts := atoms_spec (ws := wsX3_readArgument) B.pre
  have hown : s.vm.findClass RX3 = some m.cls := findClass_of_methodNamed B.named
  have hlocks := B.notSynchronized
  have hD := ft_D_self hD0
  have hS : va_S (ft_A 292 ad) s.heap s.heap [] := va_S.rf
  have hl := lv_entry ([.ref (ad 256), .int x1]) (n := 4) (Nat.le_of_ble_eq_true rfl)
  rw [lg_entry_eq]
  generalize (lg_sl ([.ref (ad 256), .int x1]) ++ List.replicate (4 - (lg_sl ([.ref (ad 256), .int x1])).length) Slot.unset).toArray = ls at hl ⊢
  have hl : lv_has ls 4 [(0, .ref (ad 256)), (1, .int (x1))] := hl
  have hsp := (s_X3_readArgument.eq_1 o g x1).symm
  refine lv_aload_n hx hb dX3_readArgument_0 rfl (lv_at hl 0 rfl) ?_
  refine lv_bipush (v := 32) hx hb dX3_readArgument_1 (by decide) ?_
  refine va_calli (va_runV (As := [.int (32)]) (rest := []) ⟨hx, hb, hml, hown, hts⟩ (c_X3_readSign l dC Z ad k q pm o g 32  hc1 hc2) (cwV 1 hts gX3_readArgument_X3_readSign rfl rfl rfl (by decide +kernel) ⟨Nat.le_of_ble_eq_true rfl, Nat.le_of_ble_eq_true rfl⟩) (ft_preVh hE hS (fun _ h => h) hP hD (ci := 5) (q0 := (253 + 3)) rfl (ft_get' (by decide) rfl)) rfl rfl hl.1 rfl (lv_room (Nat.le_of_ble_eq_true rfl)) dX3_readArgument_3 ⟨Nat.le_of_ble_eq_true rfl, Nat.le_of_ble_eq_true rfl⟩) hS (fun q _ h => h) (fun q h => h) (fun z u t H1 locs ht hvm hw hB hz1 hk1 hS => ?_)
  obtain ⟨rfl, rfl⟩ : z = (s_X3_readSign o g 32).1 ∧ u = (s_X3_readSign o g 32).2 := ⟨congrArg Prod.fst hw, congrArg Prod.snd hw⟩
  rw [ht] at hB
  have hP : va_P dC vwCl (ft_WR ad k Z q pm ((s_X3_readSign o g 32).2) g) H1 := hB
  have hD : va_D (ft_A 292 ad) (ft_WR ad k Z q pm ((s_X3_readSign o g 32).2) g) := ft_D_va hD _
  generalize H1 = H at hP hS ⊢
  refine lv_if_ne (tgt := 11) hx hb dX3_readArgument_6 (by decide) (fun c_6 => ?_) (fun c_6 => ?_)
  · replace hsp := (if_neg c_6).symm.trans hsp
    refine lv_aload_n hx hb dX3_readArgument_11 rfl (lv_at hl 0 rfl) ?_
    refine va_calli (va_runV (As := []) (rest := []) ⟨hx, hb, hml, hown, hts⟩ (c_X3_readDigit l dC Z ad k q pm ((s_X3_readSign o g 32).2) g   (by rw [ox_readSign (by decide)]; exact hc1) hc2) (cwV 0 hts gX3_readArgument_X3_readDigit rfl rfl rfl (by decide +kernel) ⟨Nat.le_of_ble_eq_true rfl, Nat.le_of_ble_eq_true rfl⟩) (ft_preVh hE hS (fun _ h => h) hP hD (ci := 5) (q0 := (253 + 3)) rfl (ft_get' (by decide) rfl)) rfl rfl hl.1 rfl (lv_room (Nat.le_of_ble_eq_true rfl)) dX3_readArgument_12 ⟨Nat.le_of_ble_eq_true rfl, Nat.le_of_ble_eq_true rfl⟩) hS (fun q _ h => h) (fun q h => h) (fun z u t H1 locs ht hvm hw hB hz1 hk1 hS => ?_)
    obtain ⟨rfl, rfl⟩ : z = (s_X3_readDigit ((s_X3_readSign o g 32).2) g).1 ∧ u = (s_X3_readDigit ((s_X3_readSign o g 32).2) g).2 := ⟨congrArg Prod.fst hw, congrArg Prod.snd hw⟩
    rw [ht] at hB
    have hP : va_P dC vwCl (ft_WR ad k Z q pm ((s_X3_readDigit ((s_X3_readSign o g 32).2) g).2) g) H1 := hB
    have hD : va_D (ft_A 292 ad) (ft_WR ad k Z q pm ((s_X3_readDigit ((s_X3_readSign o g 32).2) g).2) g) := ft_D_va hD _
    generalize H1 = H at hP hS ⊢
    refine lv_istore_n (lv' := [(2, .int ((s_X3_readDigit ((s_X3_readSign o g 32).2) g).1)), (0, .ref (ad 256)), (1, .int (x1))]) hx hb dX3_readArgument_15 rfl hl (by decide) rfl (fun ls hl => ?_)
    refine lv_iload_n hx hb dX3_readArgument_16 rfl (lv_at hl 0 rfl) ?_
    refine lv_iconst (v := (-1)) hx hb dX3_readArgument_17 (by decide) ?_
    refine lv_icmp_eq (tgt := 25) hx hb dX3_readArgument_18 (by decide) (fun c_18 => ?_) (fun c_18 => ?_)
    · replace hsp := (if_pos c_18).symm.trans hsp
      refine lv_iload_n hx hb dX3_readArgument_25 rfl (lv_at hl 0 rfl) ?_
      exact W.iret (v := (s_X3_readDigit ((s_X3_readSign o g 32).2) g).1) hx hb hr (fun t ht hW => ⟨⟨(s_X3_readDigit ((s_X3_readSign o g 32).2) g).1, ((s_X3_readDigit ((s_X3_readSign o g 32).2) g).2), rfl, hsp, ft_heap ht hP⟩, hS.F ht⟩) hS.2.2 dX3_readArgument_26
    · replace hsp := (if_neg c_18).symm.trans hsp
      refine lv_iload_n hx hb dX3_readArgument_21 rfl (lv_at hl 2 rfl) ?_
      refine lv_if_ne (tgt := 27) hx hb dX3_readArgument_22 (by decide) (fun c_22 => ?_) (fun c_22 => ?_)
      · replace hsp := (if_neg c_22).symm.trans hsp
        refine lv_aload_n hx hb dX3_readArgument_27 rfl (lv_at hl 1 rfl) ?_
        refine va_calli (va_runV (As := []) (rest := []) ⟨hx, hb, hml, hown, hts⟩ (c_X3_readDigit l dC Z ad k q pm ((s_X3_readDigit ((s_X3_readSign o g 32).2) g).2) g   (by rw [ox_readDigit (by decide), ox_readSign (by decide)]; exact hc1) hc2) (cwV 0 hts gX3_readArgument_X3_readDigit rfl rfl rfl (by decide +kernel) ⟨Nat.le_of_ble_eq_true rfl, Nat.le_of_ble_eq_true rfl⟩) (ft_preVh hE hS (fun _ h => h) hP hD (ci := 5) (q0 := (253 + 3)) rfl (ft_get' (by decide) rfl)) rfl rfl hl.1 rfl (lv_room (Nat.le_of_ble_eq_true rfl)) dX3_readArgument_28 ⟨Nat.le_of_ble_eq_true rfl, Nat.le_of_ble_eq_true rfl⟩) hS (fun q _ h => h) (fun q h => h) (fun z u t H1 locs ht hvm hw hB hz1 hk1 hS => ?_)
        obtain ⟨rfl, rfl⟩ : z = (s_X3_readDigit ((s_X3_readDigit ((s_X3_readSign o g 32).2) g).2) g).1 ∧ u = (s_X3_readDigit ((s_X3_readDigit ((s_X3_readSign o g 32).2) g).2) g).2 := ⟨congrArg Prod.fst hw, congrArg Prod.snd hw⟩
        rw [ht] at hB
        have hP : va_P dC vwCl (ft_WR ad k Z q pm ((s_X3_readDigit ((s_X3_readDigit ((s_X3_readSign o g 32).2) g).2) g).2) g) H1 := hB
        have hD : va_D (ft_A 292 ad) (ft_WR ad k Z q pm ((s_X3_readDigit ((s_X3_readDigit ((s_X3_readSign o g 32).2) g).2) g).2) g) := ft_D_va hD _
        generalize H1 = H at hP hS ⊢
        refine lv_istore_n (lv' := [(3, .int ((s_X3_readDigit ((s_X3_readDigit ((s_X3_readSign o g 32).2) g).2) g).1)), (2, .int ((s_X3_readDigit ((s_X3_readSign o g 32).2) g).1)), (0, .ref (ad 256)), (1, .int (x1))]) hx hb dX3_readArgument_31 rfl hl (by decide) rfl (fun ls hl => ?_)
        refine lv_iload_n hx hb dX3_readArgument_32 rfl (lv_at hl 0 rfl) ?_
        refine lv_iconst (v := (-1)) hx hb dX3_readArgument_33 (by decide) ?_
        refine lv_icmp_ne (tgt := 41) hx hb dX3_readArgument_34 (by decide) (fun c_34 => ?_) (fun c_34 => ?_)
        · replace hsp := (if_neg c_34).symm.trans hsp
          refine lv_iload_n hx hb dX3_readArgument_41 rfl (lv_at hl 1 rfl) ?_
          refine lv_bipush (v := 10) hx hb dX3_readArgument_42 (by decide) ?_
          refine lv_imul hx hb dX3_readArgument_44 ?_
          refine lv_iload_n hx hb dX3_readArgument_45 rfl (lv_at hl 0 rfl) ?_
          refine lv_iadd hx hb dX3_readArgument_46 ?_
          exact W.iret (v := (((s_X3_readDigit ((s_X3_readSign o g 32).2) g).1) * 10) + ((s_X3_readDigit ((s_X3_readDigit ((s_X3_readSign o g 32).2) g).2) g).1)) hx hb hr (fun t ht hW => ⟨⟨(((s_X3_readDigit ((s_X3_readSign o g 32).2) g).1) * 10) + ((s_X3_readDigit ((s_X3_readDigit ((s_X3_readSign o g 32).2) g).2) g).1), ((s_X3_readDigit ((s_X3_readDigit ((s_X3_readSign o g 32).2) g).2) g).2), rfl, hsp, ft_heap ht hP⟩, hS.F ht⟩) hS.2.2 dX3_readArgument_47
        · replace hsp := (if_pos c_34).symm.trans hsp
          refine lv_iload_n hx hb dX3_readArgument_37 rfl (lv_at hl 1 rfl) ?_
          refine lv_goto (tgt := 47) hx hb dX3_readArgument_38 (by decide) ?_
          exact W.iret (v := (s_X3_readDigit ((s_X3_readSign o g 32).2) g).1) hx hb hr (fun t ht hW => ⟨⟨(s_X3_readDigit ((s_X3_readSign o g 32).2) g).1, ((s_X3_readDigit ((s_X3_readDigit ((s_X3_readSign o g 32).2) g).2) g).2), rfl, hsp, ft_heap ht hP⟩, hS.F ht⟩) hS.2.2 dX3_readArgument_47
      · replace hsp := (if_pos c_22).symm.trans hsp
        refine lv_iload_n hx hb dX3_readArgument_25 rfl (lv_at hl 0 rfl) ?_
        exact W.iret (v := (s_X3_readDigit ((s_X3_readSign o g 32).2) g).1) hx hb hr (fun t ht hW => ⟨⟨(s_X3_readDigit ((s_X3_readSign o g 32).2) g).1, ((s_X3_readDigit ((s_X3_readSign o g 32).2) g).2), rfl, hsp, ft_heap ht hP⟩, hS.F ht⟩) hS.2.2 dX3_readArgument_26
  · replace hsp := (if_pos c_6).symm.trans hsp
    refine lv_iconst (v := (-1)) hx hb dX3_readArgument_9 (by decide) ?_
    exact W.iret (v := (-1)) hx hb hr (fun t ht hW => ⟨⟨(-1), ((s_X3_readSign o g 32).2), rfl, hsp, ft_heap ht hP⟩, hS.F ht⟩) hS.2.2 dX3_readArgument_10

def s_X3_readWord_L4 (o : Nat → Int32) (g : ft_G)  (K : Int32 → Int32 → (Option Nat × (Nat → Int32))) : Nat → Int32 → Int32 → (Option Nat × (Nat → Int32))
  | 0, y1_4, y2_4 => K y1_4 y2_4
  | n + 1, y1_4, y2_4 => if 9 ≤ y2_4 then (K y1_4 y2_4 ) else (if (s_X3_matchedSigns o g (tn y2_4)) = (nI (ft_wln.getD (tn y2_4) 0)) then ((some (tn y2_4), (va_up o 5 ((o 5) + (s_X3_matchedSigns o g (tn y2_4)))))) else (s_X3_readWord_L4 o g K n (if y1_4 < (s_X3_matchedSigns o g (tn y2_4)) then (s_X3_matchedSigns o g (tn y2_4)) else y1_4) (y2_4 + 1)))
def s_X3_readWord (o : Nat → Int32) (g : ft_G)  : Option Nat × (Nat → Int32) := s_X3_readWord_L4 o g (fun y1_4 y2_4 => (none, (va_up o 5 ((o 5) + y1_4)))) (tn 9 + 1) 0 0
set_option maxHeartbeats 4000000 in
set_option maxRecDepth 100000 in
theorem c_X3_readWord (l : Launch) (dC : va_G) (Z : Nat → Nat → Nat) (ad : Nat → Nat) (k : Nat → ClassId) (q : Nat → Nat → Int32) (pm : Nat → Nat) (o : Nat → Int32) (g : ft_G)  (hc1 : o 6 ≤ nI g.1.1) (hc2 : g.1.1 < 2 ^ 31) : Met l yX3_readWord wsX3_readWord ({ frames := 6, cells := 0, slots := 0, locals := 133 }) (ft_Pf dC k Z (ft_A 292 ad) [.ref (ad 256)] (ft_WR ad k Z q pm o g)) (va_Qe (Z 0) (fun (z : Option Nat) (u : Nat → Int32) => (z, u) = s_X3_readWord o g ∧ ∀ j, z = some j → j < 9) (fun (u : (Nat → Int32)) (t : State) => va_P dC vwCl (ft_WR ad k Z q pm u g) t.heap) (ft_A 292 ad)) 0 0 (ft_A 292 ad) := by
  refine Met.ofW (cc := cX3_readWord) (maxL := 5) (ret := (some (.object "FoodTruckRota$Command"))) (by decide) rfl ?_
  intro p e s m args below meth c s₁ B hml hv
  obtain ⟨hargs, hP, hE, hD0⟩ := hv
  have hK := hE.1
  subst hargs
  have hx := B.exec
  have hb := B.bytes
  have hr := B.returns
  have hts := atoms_spec (ws := wsX3_readWord) B.pre
  have hown : s.vm.findClass RX3 = some m.cls := findClass_of_methodNamed B.named
  have hlocks := B.notSynchronized
  have hD := ft_D_self hD0
  have hS : va_S (ft_A 292 ad) s.heap s.heap [] := va_S.rf
  have hl := lv_entry ([.ref (ad 256)]) (n := 5) (Nat.le_of_ble_eq_true rfl)
  rw [lg_entry_eq]
  generalize (lg_sl ([.ref (ad 256)]) ++ List.replicate (5 - (lg_sl ([.ref (ad 256)])).length) Slot.unset).toArray = ls at hl ⊢
  have hl : lv_has ls 5 [(0, .ref (ad 256))] := hl
  have hsp := (s_X3_readWord.eq_1 o g ).symm
  refine lv_iconst (v := 0) hx hb dX3_readWord_0 (by decide) ?_
  refine lv_istore_n (lv' := [(1, .int (0)), (0, .ref (ad 256))]) hx hb dX3_readWord_1 rfl hl (by decide) rfl (fun ls hl => ?_)
  refine lv_iconst (v := 0) hx hb dX3_readWord_2 (by decide) ?_
  refine lv_istore_n (lv' := [(2, .int (0)), (1, .int (0)), (0, .ref (ad 256))]) hx hb dX3_readWord_3 rfl hl (by decide) rfl (fun ls hl => ?_)
  have loop_4 : ∀ (K : Int32 → Int32 → (Option Nat × (Nat → Int32))) (hKx : ∀ (y1_4 : Int32) (y2_4 : Int32) (i_4 : Nat) (hi_4 : y2_4 = nI i_4) (hm_4 : i_4 ≤ tn 9)  (H : Heap) (locs : List Loc) (hP : va_P dC vwCl (ft_WR ad k Z q pm o g) H) (hD : va_D (ft_A 292 ad) (ft_WR ad k Z q pm o g)) (hS : va_S (ft_A 292 ad) s.heap H locs) (ls : Array Slot) (hl : lv_has ls 5 [(0, .ref (ad 256)), (1, .int (y1_4)), (2, .int (y2_4))]) (hsp : K y1_4 y2_4 = s_X3_readWord o g), W p l e (headSpec wsX3_readWord ({ frames := 6, cells := 0, slots := 0, locals := 133 })).room s m ([.ref (ad 256)] : List Value).toArray below meth c H locs 0 0 (MQ below (va_Qe (Z 0) (fun (z : Option Nat) (u : Nat → Int32) => (z, u) = s_X3_readWord o g ∧ ∀ j, z = some j → j < 9) (fun (u : (Nat → Int32)) (t : State) => va_P dC vwCl (ft_WR ad k Z q pm u g) t.heap) (ft_A 292 ad)) ([.ref (ad 256)] : List Value).toArray s 0 0 (ft_A 292 ad)) (F0 m 66 ls [])) (n_4 : Nat), ∀ (y1_4 : Int32) (y2_4 : Int32) (i_4 : Nat) (hi_4 : y2_4 = nI i_4) (hm_4 : i_4 ≤ tn 9) (hn_4 : tn 9 < n_4 + i_4)  (H : Heap) (locs : List Loc) (hP : va_P dC vwCl (ft_WR ad k Z q pm o g) H) (hD : va_D (ft_A 292 ad) (ft_WR ad k Z q pm o g)) (hS : va_S (ft_A 292 ad) s.heap H locs) (ls : Array Slot) (hl : lv_has ls 5 [(0, .ref (ad 256)), (1, .int (y1_4)), (2, .int (y2_4))]) (hsp : s_X3_readWord_L4 o g K n_4 y1_4 y2_4 = s_X3_readWord o g), W p l e (headSpec wsX3_readWord ({ frames := 6, cells := 0, slots := 0, locals := 133 })).room s m ([.ref (ad 256)] : List Value).toArray below meth c H locs 0 0 (MQ below (va_Qe (Z 0) (fun (z : Option Nat) (u : Nat → Int32) => (z, u) = s_X3_readWord o g ∧ ∀ j, z = some j → j < 9) (fun (u : (Nat → Int32)) (t : State) => va_P dC vwCl (ft_WR ad k Z q pm u g) t.heap) (ft_A 292 ad)) ([.ref (ad 256)] : List Value).toArray s 0 0 (ft_A 292 ad)) (F0 m 4 ls []) := by
    intro K hKx n_4
    induction n_4 with
    | zero => intro y1_4 y2_4 i_4 hi_4 hm_4 hn_4; exact absurd hn_4 (by omega)
    | succ n ih_4 =>
      intro y1_4 y2_4 i_4 hi_4 hm_4 hn_4  H locs hP hD hS ls hl hsp
      rw [s_X3_readWord_L4] at hsp
      refine lv_iload_n hx hb dX3_readWord_4 rfl (lv_at hl 2 rfl) ?_
      refine va_getsN (C := RX1) (n := "ALL") hx hb hE.2.2.al hS hown (ft_nl hK.2 28 rfl) (fun _ h9 => h9) dX3_readWord_5 ?_
      refine va_tlen (v := 9) hx hb hE.2.2.at hS rfl dX3_readWord_8 ?_
      refine lv_icmp_ge (tgt := 66) hx hb dX3_readWord_9 (by decide) (fun c_9 => ?_) (fun c_9 => ?_)
      · replace hsp := (if_pos c_9).symm.trans hsp
        exact hKx y1_4 y2_4 i_4 hi_4 hm_4  _ _ hP hD hS ls (lv_sub hl [0, 1, 2] rfl) hsp
      · replace hsp := (if_neg c_9).symm.trans hsp
        have hlt_4 := ft_step hi_4 hm_4 c_9
        refine va_getsN (C := RX1) (n := "ALL") hx hb hE.2.2.al hS hown (ft_nl hK.2 28 rfl) (fun _ h9 => h9) dX3_readWord_12 ?_
        refine lv_iload_n hx hb dX3_readWord_15 rfl (lv_at hl 2 rfl) ?_
        have h_16 : vp_in y2_4 9 := by exact ft_vin hi_4 hlt_4
        refine vb_tq (v := .ref (Z 0 (tn y2_4))) hx hb hE.2.2.at hS h_16 rfl dX3_readWord_16 ?_
        refine lv_astore_n (lv' := [(3, .ref (Z 0 (tn y2_4))), (0, .ref (ad 256)), (1, .int (y1_4)), (2, .int (y2_4))]) hx hb dX3_readWord_17 rfl hl (by decide) rfl (fun ls hl => ?_)
        refine lv_aload_n hx hb dX3_readWord_18 rfl (lv_at hl 1 rfl) ?_
        refine lv_aload_n hx hb dX3_readWord_19 rfl (lv_at hl 0 rfl) ?_
        refine ft_getfN (o := RX1) (n := "word") (d := "Ljava/lang/String;") (v := .ref (Z 1 (tn y2_4))) hx hb (hE.2.2.wd (tn y2_4) (ft_tn h_16)) hS hown (ft_nl hK.2 29 rfl) (fun _ h9 => h9) dX3_readWord_20 ?_
        refine vp_callSi (va_Run.run (va_runV (As := [.ref (Z 1 (tn y2_4))]) (rest := []) ⟨hx, hb, hml, hown, hts⟩ (c_X3_matchedSigns l dC Z ad k q pm o g (tn y2_4) (ft_tn h_16) hc1 hc2) (cwV 1 hts gX3_readWord_X3_matchedSigns rfl rfl rfl (by decide +kernel) ⟨Nat.le_of_ble_eq_true rfl, Nat.le_of_ble_eq_true rfl⟩) (ft_preVg hE hS (fun _ h => h) hP (ci := 5) (q0 := (253 + 3)) rfl (ft_get' (by decide) rfl)) rfl rfl hl.1 rfl (lv_room (Nat.le_of_ble_eq_true rfl)) dX3_readWord_23 ⟨Nat.le_of_ble_eq_true rfl, Nat.le_of_ble_eq_true rfl⟩)) (fun z hz => ?_)
        subst hz
        refine lv_istore (lv' := [(4, .int ((s_X3_matchedSigns o g (tn y2_4)))), (3, .ref (Z 0 (tn y2_4))), (0, .ref (ad 256)), (1, .int (y1_4)), (2, .int (y2_4))]) hx hb dX3_readWord_26 hl (by decide) rfl (fun ls hl => ?_)
        refine lv_iload hx hb dX3_readWord_28 (lv_at hl 0 rfl) ?_
        refine lv_aload_n hx hb dX3_readWord_30 rfl (lv_at hl 1 rfl) ?_
        refine ft_getfN (o := RX1) (n := "word") (d := "Ljava/lang/String;") (v := .ref (Z 1 (tn y2_4))) hx hb (hE.2.2.wd (tn y2_4) (ft_tn h_16)) hS hown (ft_nl hK.2 29 rfl) (fun _ h9 => h9) dX3_readWord_31 ?_
        refine vp_callSi (va_Run.run (va_runV (As := []) (rest := [.int ((s_X3_matchedSigns o g (tn y2_4)))]) ⟨hx, hb, hml, hown, hts⟩ (c_J0_length_8abf5 l dC Z (ft_A 292 ad) k (Z 1 (tn y2_4)) (Z 2 (tn y2_4)) (ft_wln.getD (tn y2_4) 0) (ft_wbf (tn y2_4))) (cwV 0 hts gX3_readWord_J0_length_8abf5 rfl rfl rfl (by decide +kernel) ⟨Nat.le_of_ble_eq_true rfl, Nat.le_of_ble_eq_true rfl⟩) (ft_preVx hE hS (fun _ h => h) (hE.2.2.st.1 (tn y2_4) (ft_tn h_16))) rfl rfl hl.1 rfl (lv_room (Nat.le_of_ble_eq_true rfl)) dX3_readWord_34 ⟨Nat.le_of_ble_eq_true rfl, Nat.le_of_ble_eq_true rfl⟩)) (fun z hz => ?_)
        subst hz
        refine lv_icmp_ne (tgt := 53) hx hb dX3_readWord_37 (by decide) (fun c_37 => ?_) (fun c_37 => ?_)
        · replace hsp := (if_neg c_37).symm.trans hsp
          refine lv_iload_n hx hb dX3_readWord_53 rfl (lv_at hl 3 rfl) ?_
          refine lv_iload hx hb dX3_readWord_54 (lv_at hl 0 rfl) ?_
          refine va_mmax hx hb (hml.trans hl.1.symm) hown (hts (.methodLink RX3 94 Lib.Math.max.name) (by decide +kernel)) (hts (.static Lib.Math.max.name) (by decide +kernel)) (hts (.initialized "java/lang/Math") (by decide +kernel)) (hts (.code Lib.Math.max.name Lib.Math.max.code 2 (some .int)) (by decide +kernel)) (Nat.le_of_ble_eq_true rfl) (Nat.le_of_ble_eq_true rfl) (Nat.zero_le _) (Nat.zero_le _) dX3_readWord_56 ?_
          refine lv_istore_n (lv' := [(1, .int (if y1_4 < (s_X3_matchedSigns o g (tn y2_4)) then (s_X3_matchedSigns o g (tn y2_4)) else y1_4)), (4, .int ((s_X3_matchedSigns o g (tn y2_4)))), (3, .ref (Z 0 (tn y2_4))), (0, .ref (ad 256)), (2, .int (y2_4))]) hx hb dX3_readWord_59 rfl hl (by decide) rfl (fun ls hl => ?_)
          refine lv_iinc (v := y2_4 + 1) (lv' := [(2, .int (y2_4 + 1)), (1, .int (if y1_4 < (s_X3_matchedSigns o g (tn y2_4)) then (s_X3_matchedSigns o g (tn y2_4)) else y1_4)), (4, .int ((s_X3_matchedSigns o g (tn y2_4)))), (3, .ref (Z 0 (tn y2_4))), (0, .ref (ad 256))]) hx hb dX3_readWord_60 hl (k := 4) rfl rfl (by decide) rfl (fun ls hl => ?_)
          refine lv_goto (tgt := 4) hx hb dX3_readWord_63 (by decide) ?_
          exact ih_4 (if y1_4 < (s_X3_matchedSigns o g (tn y2_4)) then (s_X3_matchedSigns o g (tn y2_4)) else y1_4) (y2_4 + 1) (i_4 + 1) (by rw [hi_4, nI_1]) hlt_4 (by omega)  _ _ hP hD hS ls (lv_sub hl [4, 1, 0] rfl) hsp
        · replace hsp := (if_pos c_37).symm.trans hsp
          refine lv_aload_n hx hb dX3_readWord_40 rfl (lv_at hl 2 rfl) ?_
          refine lv_dup hx hb dX3_readWord_41 rfl ?_
          refine va_get (D := dC) (ci := 5) (v := .int (o 5)) (C := RX3) (T := TX3) (N := 4) hx hb hts (by decide +kernel) hown hK.1 hP (253 + 3) (ft_get' (by decide) rfl) rfl 3 (by decide) (hts (.fieldLink RX3 25 "FoodTruckRota$Script" "position" "I") (by decide +kernel)) (fun _ h9 => h9) rfl dX3_readWord_42 ?_
          refine lv_iload hx hb dX3_readWord_45 (lv_at hl 0 rfl) ?_
          refine lv_iadd hx hb dX3_readWord_47 ?_
          refine va_put (D := dC) (ci := 5) (v := .int ((o 5) + (s_X3_matchedSigns o g (tn y2_4)))) (ty := .int) (C := RX3) (T := TX3) (N := 4) hx hb hts (by decide +kernel) tyX3 tyX3_ok nmX3 hown hK.1 hP hD hS (253 + 3) (ft_get' (by decide) rfl) rfl 3 (by decide) (hts (.fieldLink RX3 25 "FoodTruckRota$Script" "position" "I") (by decide +kernel)) (fun _ h9 => h9) rfl (by decide +kernel) rfl rfl (Nat.le_of_ble_eq_true rfl) dX3_readWord_48 (fun H locs hP hD hS => ?_)
          have hP := ft_cast hP (ft_R_p5)
          have hD := ft_castD hD (ft_R_p5)
          have hP : va_P dC vwCl (ft_WR ad k Z q pm (va_up o 5 ((o 5) + (s_X3_matchedSigns o g (tn y2_4)))) g) H := hP
          have hD : va_D (ft_A 292 ad) (ft_WR ad k Z q pm (va_up o 5 ((o 5) + (s_X3_matchedSigns o g (tn y2_4)))) g) := hD
          refine lv_aload_n hx hb dX3_readWord_51 rfl (lv_at hl 1 rfl) ?_
          exact W.aret (v := .ref (Z 0 (tn y2_4))) hx hb hr (Or.inl ⟨_, rfl⟩) (Or.inr ⟨_, rfl⟩) (fun t ht hW => ⟨⟨some (tn y2_4), (va_up o 5 ((o 5) + (s_X3_matchedSigns o g (tn y2_4)))), rfl, ⟨hsp, (fun j h => by cases h; exact (ft_tn h_16))⟩, ft_heap ht hP⟩, hS.F ht⟩) hS.2.2 dX3_readWord_52
  refine loop_4 _ (fun y1_4 y2_4 i_4 hi_4 hm_4  H locs hP hD hS ls hl hsp => ?_) (tn 9 + 1) 0 0 0 rfl (by omega) (by omega)  _ _ hP hD hS ls (lv_sub hl [2, 1, 0] rfl) hsp
  refine lv_aload_n hx hb dX3_readWord_66 rfl (lv_at hl 0 rfl) ?_
  refine lv_dup hx hb dX3_readWord_67 rfl ?_
  refine va_get (D := dC) (ci := 5) (v := .int (o 5)) (C := RX3) (T := TX3) (N := 4) hx hb hts (by decide +kernel) hown hK.1 hP (253 + 3) (ft_get' (by decide) rfl) rfl 3 (by decide) (hts (.fieldLink RX3 25 "FoodTruckRota$Script" "position" "I") (by decide +kernel)) (fun _ h9 => h9) rfl dX3_readWord_68 ?_
  refine lv_iload_n hx hb dX3_readWord_71 rfl (lv_at hl 1 rfl) ?_
  refine lv_iadd hx hb dX3_readWord_72 ?_
  refine va_put (D := dC) (ci := 5) (v := .int ((o 5) + y1_4)) (ty := .int) (C := RX3) (T := TX3) (N := 4) hx hb hts (by decide +kernel) tyX3 tyX3_ok nmX3 hown hK.1 hP hD hS (253 + 3) (ft_get' (by decide) rfl) rfl 3 (by decide) (hts (.fieldLink RX3 25 "FoodTruckRota$Script" "position" "I") (by decide +kernel)) (fun _ h9 => h9) rfl (by decide +kernel) rfl rfl (Nat.le_of_ble_eq_true rfl) dX3_readWord_73 (fun H locs hP hD hS => ?_)
  have hP := ft_cast hP (ft_R_p5)
  have hD := ft_castD hD (ft_R_p5)
  have hP : va_P dC vwCl (ft_WR ad k Z q pm (va_up o 5 ((o 5) + y1_4)) g) H := hP
  have hD : va_D (ft_A 292 ad) (ft_WR ad k Z q pm (va_up o 5 ((o 5) + y1_4)) g) := hD
  refine lv_null hx hb dX3_readWord_76 ?_
  exact W.aret (v := .null) hx hb hr (Or.inl ⟨_, rfl⟩) (Or.inl rfl) (fun t ht hW => ⟨⟨none, (va_up o 5 ((o 5) + y1_4)), rfl, ⟨hsp, (fun j h => by cases h)⟩, ft_heap ht hP⟩, hS.F ht⟩) hS.2.2 dX3_readWord_77

theorem ox_readArgument {o : Nat → Int32} {g : ft_G} {x : Int32} {i : Nat} (hi : i ≠ 5) : (s_X3_readArgument o g x).2 i = o i := by
  unfold s_X3_readArgument
  repeat' split
  all_goals first
    | rfl
    | rw [ox_readSign hi]
    | rw [ox_readDigit hi, ox_readSign hi]
    | rw [ox_readDigit hi, ox_readDigit hi, ox_readSign hi]
theorem ox_readWord_L {o : Nat → Int32} {g : ft_G} {i : Nat} (K : Int32 → Int32 → Option Nat × (Nat → Int32)) (hK : ∀ a b, (K a b).2 i = o i) (hi : i ≠ 5) : ∀ (n : Nat) (a b : Int32), (s_X3_readWord_L4 o g K n a b).2 i = o i := by
  intro n
  induction n with
  | zero => intro a b; rw [s_X3_readWord_L4]; exact hK a b
  | succ n ih =>
    intro a b
    rw [s_X3_readWord_L4]
    split
    · exact hK a b
    · split
      · exact va_up_ne _ _ hi
      · exact ih _ _
theorem ox_readWord {o : Nat → Int32} {g : ft_G} {i : Nat} (hi : i ≠ 5) : (s_X3_readWord o g).2 i = o i := by
  unfold s_X3_readWord
  exact ox_readWord_L _ (fun a b => va_up_ne _ _ hi) hi _ _ _
