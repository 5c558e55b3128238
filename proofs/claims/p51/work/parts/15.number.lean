/-! numbers as text -/
theorem ft_ncmp {v c : Nat} {x : Int32} (hv : v < 2 ^ 31) (hx : x = -nI c) (hc : c < 2 ^ 31) : -nI v ≤ x ↔ c ≤ v := by subst hx; exact sb_nle hv hc
theorem ft_size {v : Nat} (hv : v < 2 ^ 31) : s_J6_stringSize_0f7a4 (nI v) = nI (sb_dg v) := by
  unfold s_J6_stringSize_0f7a4 sb_dg
  rw [show tn 10 + 1 = 11 by decide]
  rw [s_J6_stringSize_0f7a4_L16, if_neg (show ¬ (10 : Int32) ≤ 1 by decide)]
  by_cases h1 : v < 10
  · rw [if_neg (fun h => by have := (ft_ncmp hv (x := (-10)) (c := 10) (by decide) (by decide)).mp h; omega), if_pos h1]; rfl
  rw [if_pos ((ft_ncmp hv (x := (-10)) (c := 10) (by decide) (by decide)).mpr (by omega)), if_neg h1]
  rw [s_J6_stringSize_0f7a4_L16, if_neg (show ¬ (10 : Int32) ≤ 1 + 1 by decide)]
  by_cases h2 : v < 100
  · rw [if_neg (fun h => by have := (ft_ncmp hv (x := (10 * (-10))) (c := 100) (by decide) (by decide)).mp h; omega), if_pos h2]; rfl
  rw [if_pos ((ft_ncmp hv (x := (10 * (-10))) (c := 100) (by decide) (by decide)).mpr (by omega)), if_neg h2]
  rw [s_J6_stringSize_0f7a4_L16, if_neg (show ¬ (10 : Int32) ≤ (1 + 1) + 1 by decide)]
  by_cases h3 : v < 1000
  · rw [if_neg (fun h => by have := (ft_ncmp hv (x := (10 * (10 * (-10)))) (c := 1000) (by decide) (by decide)).mp h; omega), if_pos h3]; rfl
  rw [if_pos ((ft_ncmp hv (x := (10 * (10 * (-10)))) (c := 1000) (by decide) (by decide)).mpr (by omega)), if_neg h3]
  rw [s_J6_stringSize_0f7a4_L16, if_neg (show ¬ (10 : Int32) ≤ ((1 + 1) + 1) + 1 by decide)]
  by_cases h4 : v < 10000
  · rw [if_neg (fun h => by have := (ft_ncmp hv (x := (10 * (10 * (10 * (-10))))) (c := 10000) (by decide) (by decide)).mp h; omega), if_pos h4]; rfl
  rw [if_pos ((ft_ncmp hv (x := (10 * (10 * (10 * (-10))))) (c := 10000) (by decide) (by decide)).mpr (by omega)), if_neg h4]
  rw [s_J6_stringSize_0f7a4_L16, if_neg (show ¬ (10 : Int32) ≤ (((1 + 1) + 1) + 1) + 1 by decide)]
  by_cases h5 : v < 100000
  · rw [if_neg (fun h => by have := (ft_ncmp hv (x := (10 * (10 * (10 * (10 * (-10)))))) (c := 100000) (by decide) (by decide)).mp h; omega), if_pos h5]; rfl
  rw [if_pos ((ft_ncmp hv (x := (10 * (10 * (10 * (10 * (-10)))))) (c := 100000) (by decide) (by decide)).mpr (by omega)), if_neg h5]
  rw [s_J6_stringSize_0f7a4_L16, if_neg (show ¬ (10 : Int32) ≤ ((((1 + 1) + 1) + 1) + 1) + 1 by decide)]
  by_cases h6 : v < 1000000
  · rw [if_neg (fun h => by have := (ft_ncmp hv (x := (10 * (10 * (10 * (10 * (10 * (-10))))))) (c := 1000000) (by decide) (by decide)).mp h; omega), if_pos h6]; rfl
  rw [if_pos ((ft_ncmp hv (x := (10 * (10 * (10 * (10 * (10 * (-10))))))) (c := 1000000) (by decide) (by decide)).mpr (by omega)), if_neg h6]
  rw [s_J6_stringSize_0f7a4_L16, if_neg (show ¬ (10 : Int32) ≤ (((((1 + 1) + 1) + 1) + 1) + 1) + 1 by decide)]
  by_cases h7 : v < 10000000
  · rw [if_neg (fun h => by have := (ft_ncmp hv (x := (10 * (10 * (10 * (10 * (10 * (10 * (-10)))))))) (c := 10000000) (by decide) (by decide)).mp h; omega), if_pos h7]; rfl
  rw [if_pos ((ft_ncmp hv (x := (10 * (10 * (10 * (10 * (10 * (10 * (-10)))))))) (c := 10000000) (by decide) (by decide)).mpr (by omega)), if_neg h7]
  rw [s_J6_stringSize_0f7a4_L16, if_neg (show ¬ (10 : Int32) ≤ ((((((1 + 1) + 1) + 1) + 1) + 1) + 1) + 1 by decide)]
  by_cases h8 : v < 100000000
  · rw [if_neg (fun h => by have := (ft_ncmp hv (x := (10 * (10 * (10 * (10 * (10 * (10 * (10 * (-10))))))))) (c := 100000000) (by decide) (by decide)).mp h; omega), if_pos h8]; rfl
  rw [if_pos ((ft_ncmp hv (x := (10 * (10 * (10 * (10 * (10 * (10 * (10 * (-10))))))))) (c := 100000000) (by decide) (by decide)).mpr (by omega)), if_neg h8]
  rw [s_J6_stringSize_0f7a4_L16, if_neg (show ¬ (10 : Int32) ≤ (((((((1 + 1) + 1) + 1) + 1) + 1) + 1) + 1) + 1 by decide)]
  by_cases h9 : v < 1000000000
  · rw [if_neg (fun h => by have := (ft_ncmp hv (x := (10 * (10 * (10 * (10 * (10 * (10 * (10 * (10 * (-10)))))))))) (c := 1000000000) (by decide) (by decide)).mp h; omega), if_pos h9]; rfl
  rw [if_pos ((ft_ncmp hv (x := (10 * (10 * (10 * (10 * (10 * (10 * (10 * (10 * (-10)))))))))) (c := 1000000000) (by decide) (by decide)).mpr (by omega)), if_neg h9]
  rw [s_J6_stringSize_0f7a4_L16, if_pos (show (10 : Int32) ≤ ((((((((1 + 1) + 1) + 1) + 1) + 1) + 1) + 1) + 1) + 1 by decide)]
  rfl
def ft_dgs : Nat → Nat → Nat → (Nat → Int32) → (Nat → Int32)
  | 0, _, _, f => f
  | n + 1, v, p, f => if 100 ≤ v then ft_dgs n (v / 100) (p - 2) (va_up (va_up f (p - 1) (ft_b8 (nI (48 + v % 100 % 10)))) (p - 2) (ft_b8 (nI (48 + v % 100 / 10)))) else if 10 ≤ v then va_up (va_up f (p - 1) (ft_b8 (nI (48 + v % 10)))) (p - 2) (ft_b8 (nI (48 + v / 10))) else va_up f (p - 1) (ft_b8 (nI (48 + v % 10)))
theorem ft_nn {v : Nat} (hv : v < 2 ^ 31) : -(-nI v) = nI v := by
  refine Int32.toInt_inj.mp ?_
  rw [Int32.toInt_neg, sb_negT hv, nI_toInt hv]
  exact (Int.bmod_eq_of_le (by omega) (by omega)).trans (by omega)
theorem ft_dg2 {v : Nat} (h : 10 ≤ v) (h2 : v < 100) : sb_dg v = 2 := by unfold sb_dg; rw [if_neg (by omega), if_pos h2]
theorem ft_dg1 {v : Nat} (h : v < 10) : sb_dg v = 1 := by unfold sb_dg; rw [if_pos h]

set_option maxHeartbeats 4000000 in
set_option maxRecDepth 100000 in
theorem c_J6_getChars_ba4f3 (l : Launch) (dC : va_G) (Z : Nat → Nat → Nat) (ad : Nat → Nat) (k : Nat → ClassId) (u : ft_TY) (x1 x2 : Int32) (v0 p0 : Nat) (h1 : x1 = nI v0) (hv0 : v0 < 2 ^ 31) (h2 : x2 = nI p0) (hd0 : sb_dg v0 ≤ p0) (hp0 : p0 ≤ u.1) (hm : u.1 ≤ 65536) : Met l yJ6_getChars_ba4f3 wsJ6_getChars_ba4f3 ({ frames := 0, cells := 0, slots := 0, locals := 0 }) (ft_Pf dC k Z (ft_A 1 ad) [.int x1, .int x2, .ref (ad 0)] (ft_WY ad k u)) (va_Qi (fun (z : Int32) (f : Nat → Int32) => z = nI (p0 - sb_dg v0) ∧ f = ft_dgs 6 v0 p0 u.2) (fun (f : Nat → Int32) (t : State) => va_P dC vwCl (ft_WY ad k (u.1, f)) t.heap) (ft_A 1 ad)) 0 0 (ft_A 1 ad) := by
  refine va_MetF (cc := cJ6_getChars_ba4f3) (maxL := 7) (ret := (some .int)) (by decide +kernel) rfl ?_
  intro p e s m args below meth c s₁ B hml hv
  obtain ⟨hargs, hP, hE, hD0⟩ := hv
  have hK := hE.1
  subst hargs
  have hx := B.exec
  have hb := B.bytes
  have hr := B.returns
  have hts := atoms_spec (ws := wsJ6_getChars_ba4f3) B.pre
  have hown : s.vm.findClass RJ6 = some m.cls := findClass_of_methodNamed B.named
  have hlocks := B.notSynchronized
  have hD := ft_D_self hD0
  have hS : va_S (ft_A 1 ad) s.heap s.heap [] := va_S.rf
  have hl := lv_entry ([.int x1, .int x2, .ref (ad 0)]) (n := 7) (Nat.le_of_ble_eq_true rfl)
  rw [lg_entry_eq]
  generalize (lg_sl ([.int x1, .int x2, .ref (ad 0)]) ++ List.replicate (7 - (lg_sl ([.int x1, .int x2, .ref (ad 0)])).length) Slot.unset).toArray = ls at hl ⊢
  have hl : lv_has ls 7 [(0, .int x1), (1, .int x2), (2, .ref (ad 0))] := hl
  -- the last digits
  have fin : ∀ (v p' : Nat) (f : Nat → Int32) (H : Heap) (locs : List Loc) (ls : Array Slot), v < 100 → sb_dg v ≤ p' → p' ≤ u.1 → p' - sb_dg v = p0 - sb_dg v0 → (if 10 ≤ v then va_up (va_up f (p' - 1) (ft_b8 (nI (48 + v % 10)))) (p' - 2) (ft_b8 (nI (48 + v / 10))) else va_up f (p' - 1) (ft_b8 (nI (48 + v % 10)))) = ft_dgs 6 v0 p0 u.2 → va_P dC vwCl (ft_WY ad k (u.1, f)) H → va_D (ft_A 1 ad) (ft_WY ad k (u.1, f)) → va_S (ft_A 1 ad) s.heap H locs → lv_has ls 7 [(0, .int (-nI v)), (2, .ref (ad 0)), (5, .int (nI p')), (6, .int 0)] → W p l e (headSpec wsJ6_getChars_ba4f3 ({ frames := 0, cells := 0, slots := 0, locals := 0 })).room s m ([.int x1, .int x2, .ref (ad 0)] : List Value).toArray below meth c H locs 0 0 (MQ below (va_Qi (fun (z : Int32) (f : Nat → Int32) => z = nI (p0 - sb_dg v0) ∧ f = ft_dgs 6 v0 p0 u.2) (fun (f : Nat → Int32) (t : State) => va_P dC vwCl (ft_WY ad k (u.1, f)) t.heap) (ft_A 1 ad)) ([.int x1, .int x2, .ref (ad 0)] : List Value).toArray s 0 0 (ft_A 1 ad)) (F0 m 72 ls []) := by
    intro v p' f H locs ls hv hd hp he hF hP hD hS hl
    have hdi := sb_dg_in v
    have e1 : nI p' + (-1) = nI (p' - 1) := sb_m1 (by omega)
    have ev : tn (nI v) = v := nI_clamp (by omega)
    have ep : tn (nI (p' - 1)) = p' - 1 := nI_clamp (by omega)
    refine lv_aload_n hx hb dJ6_getChars_ba4f3_72 rfl (lv_at hl 1 rfl) ?_
    refine lv_iinc (v := nI p' + (-1)) (lv' := [(5, .int (nI p' + (-1))), (0, .int (-nI v)), (2, .ref (ad 0)), (6, .int 0)]) hx hb dJ6_getChars_ba4f3_73 hl (k := 2) rfl rfl (by decide) rfl (fun ls hl => ?_)
    rw [e1] at hl
    refine lv_iload hx hb dJ6_getChars_ba4f3_76 (lv_at hl 0 rfl) ?_
    refine va_gets (C := "java/lang/Integer") (n := "DigitOnes") (d := "[B") hx hb hE.2.2.d1 hS hown (hts (.fieldLink RJ6 83 "java/lang/Integer" "DigitOnes" "[B") (by decide +kernel)) (fun _ h9 => h9) dJ6_getChars_ba4f3_78 ?_
    refine lv_iload_n hx hb dJ6_getChars_ba4f3_81 rfl (lv_at hl 1 rfl) ?_
    refine lv_ineg hx hb dJ6_getChars_ba4f3_82 ?_
    rw [ft_nn (by omega)]
    refine va_tb (v := .int (nI (48 + v % 10))) hx hb hE.2.2.d1t hS (vp_in_nI (by omega) (by omega)) (by show Value.int (nI (48 + tn (nI v) % 10)) = _; rw [ev]) dJ6_getChars_ba4f3_83 ?_
    refine va_bast hx hb hK.1 hP hD hS 0 4 (ft_get' (by decide) rfl) rfl (show vp_in (nI (p' - 1)) u.1 from vp_in_nI (by omega) (by omega)) dJ6_getChars_ba4f3_84 (fun H locs hP hD hS => ?_)
    have hP := ft_cast hP (ft_Y_s (k := k) (ad := ad))
    have hD := ft_castD hD (ft_Y_s (k := k) (ad := ad))
    have hP : va_P dC vwCl (ft_WY ad k (u.1, va_up f (tn (nI (p' - 1))) (ft_b8 (nI (48 + v % 10))))) H := hP
    have hD : va_D (ft_A 1 ad) (ft_WY ad k (u.1, va_up f (tn (nI (p' - 1))) (ft_b8 (nI (48 + v % 10))))) := hD
    rw [ep] at hP hD
    refine lv_iload_n hx hb dJ6_getChars_ba4f3_85 rfl (lv_at hl 1 rfl) ?_
    refine lv_bipush (v := (-9)) hx hb dJ6_getChars_ba4f3_86 (by decide) ?_
    refine lv_icmp_ge (tgt := 104) hx hb dJ6_getChars_ba4f3_88 (by decide) (fun c_88 => ?_) (fun c_88 => ?_)
    · have hlt : v < 10 := by
        rcases Nat.lt_or_ge v 10 with h | h
        · exact h
        · have h5 : -nI v < -nI 9 := (sb_nlt (by omega) (by decide)).mpr (by omega)
          exact absurd h5 (ft_nlt c_88)
      rw [if_neg (by omega)] at hF
      rw [ft_dg1 hlt] at he
      refine lv_iload hx hb dJ6_getChars_ba4f3_104 (lv_at hl 3 rfl) ?_
      refine lv_if_eq (tgt := 118) hx hb dJ6_getChars_ba4f3_106 (by decide) (fun c_106 => ?_) (fun c_106 => absurd rfl c_106)
      refine lv_iload hx hb dJ6_getChars_ba4f3_118 (lv_at hl 0 rfl) ?_
      exact W.iret (v := nI (p' - 1)) hx hb hr (fun t ht hW => ⟨⟨nI (p' - 1), _, rfl, ⟨by rw [he], hF⟩, ft_heap ht hP⟩, hS.F ht⟩) hS.2.2 dJ6_getChars_ba4f3_120
    · have hge : 10 ≤ v := by
        rcases Nat.lt_or_ge v 10 with h | h
        · have h5 : -nI 9 ≤ -nI v := (sb_nle (by decide) (by omega)).mpr (by omega)
          exact absurd h5 c_88
        · exact h
      have hd2 := ft_dg2 hge hv
      rw [if_pos hge] at hF
      rw [hd2] at he hd
      have e2 : nI (p' - 1) + (-1) = nI (p' - 2) := sb_m1 (by omega)
      have ep2 : tn (nI (p' - 2)) = p' - 2 := nI_clamp (by omega)
      refine lv_aload_n hx hb dJ6_getChars_ba4f3_91 rfl (lv_at hl 2 rfl) ?_
      refine lv_iinc (v := nI (p' - 1) + (-1)) (lv' := [(5, .int (nI (p' - 1) + (-1))), (0, .int (-nI v)), (2, .ref (ad 0)), (6, .int 0)]) hx hb dJ6_getChars_ba4f3_92 hl (k := 0) rfl rfl (by decide) rfl (fun ls hl => ?_)
      rw [e2] at hl
      refine lv_iload hx hb dJ6_getChars_ba4f3_95 (lv_at hl 0 rfl) ?_
      refine va_gets (C := "java/lang/Integer") (n := "DigitTens") (d := "[B") hx hb hE.2.2.d2 hS hown (hts (.fieldLink RJ6 87 "java/lang/Integer" "DigitTens" "[B") (by decide +kernel)) (fun _ h9 => h9) dJ6_getChars_ba4f3_97 ?_
      refine lv_iload_n hx hb dJ6_getChars_ba4f3_100 rfl (lv_at hl 1 rfl) ?_
      refine lv_ineg hx hb dJ6_getChars_ba4f3_101 ?_
      rw [ft_nn (by omega)]
      refine va_tb (v := .int (nI (48 + v / 10))) hx hb hE.2.2.d2t hS (vp_in_nI (by omega) (by omega)) (by show Value.int (nI (48 + tn (nI v) / 10)) = _; rw [ev]) dJ6_getChars_ba4f3_102 ?_
      refine va_bast hx hb hK.1 hP hD hS 0 4 (ft_get' (by decide) rfl) rfl (show vp_in (nI (p' - 2)) u.1 from vp_in_nI (by omega) (by omega)) dJ6_getChars_ba4f3_103 (fun H locs hP hD hS => ?_)
      have hP := ft_cast hP (ft_Y_s (k := k) (ad := ad))
      have hP : va_P dC vwCl (ft_WY ad k (u.1, va_up (va_up f (p' - 1) (ft_b8 (nI (48 + v % 10)))) (tn (nI (p' - 2))) (ft_b8 (nI (48 + v / 10))))) H := hP
      rw [ep2] at hP
      refine lv_iload hx hb dJ6_getChars_ba4f3_104 (lv_at hl 3 rfl) ?_
      refine lv_if_eq (tgt := 118) hx hb dJ6_getChars_ba4f3_106 (by decide) (fun c_106 => ?_) (fun c_106 => absurd rfl c_106)
      refine lv_iload hx hb dJ6_getChars_ba4f3_118 (lv_at hl 0 rfl) ?_
      exact W.iret (v := nI (p' - 2)) hx hb hr (fun t ht hW => ⟨⟨nI (p' - 2), _, rfl, ⟨by rw [he], hF⟩, ft_heap ht hP⟩, hS.F ht⟩) hS.2.2 dJ6_getChars_ba4f3_120
  have loop : ∀ (n v p' : Nat) (f : Nat → Int32) (H : Heap) (locs : List Loc) (ls : Array Slot), v < 100 ^ (n + 1) → v < 2 ^ 31 → sb_dg v ≤ p' → p' ≤ u.1 → p' - sb_dg v = p0 - sb_dg v0 → ft_dgs (n + 1) v p' f = ft_dgs 6 v0 p0 u.2 → va_P dC vwCl (ft_WY ad k (u.1, f)) H → va_D (ft_A 1 ad) (ft_WY ad k (u.1, f)) → va_S (ft_A 1 ad) s.heap H locs → lv_has ls 7 [(0, .int (-nI v)), (2, .ref (ad 0)), (5, .int (nI p')), (6, .int 0)] → W p l e (headSpec wsJ6_getChars_ba4f3 ({ frames := 0, cells := 0, slots := 0, locals := 0 })).room s m ([.int x1, .int x2, .ref (ad 0)] : List Value).toArray below meth c H locs 0 0 (MQ below (va_Qi (fun (z : Int32) (f : Nat → Int32) => z = nI (p0 - sb_dg v0) ∧ f = ft_dgs 6 v0 p0 u.2) (fun (f : Nat → Int32) (t : State) => va_P dC vwCl (ft_WY ad k (u.1, f)) t.heap) (ft_A 1 ad)) ([.int x1, .int x2, .ref (ad 0)] : List Value).toArray s 0 0 (ft_A 1 ad)) (F0 m 22 ls []) := by
    intro n
    induction n with
    | zero =>
      intro v p' f H locs ls hvn hv hd hp he hF hP hD hS hl
      have hlt : v < 100 := hvn
      refine lv_iload_n hx hb dJ6_getChars_ba4f3_22 rfl (lv_at hl 0 rfl) ?_
      refine lv_bipush (v := (-100)) hx hb dJ6_getChars_ba4f3_23 (by decide) ?_
      refine lv_icmp_gt (tgt := 72) hx hb dJ6_getChars_ba4f3_25 (by decide) (fun c_25 => ?_) (fun c_25 => ?_)
      · rw [ft_dgs, if_neg (by omega)] at hF
        exact fin v p' f H locs ls hlt hd hp he hF hP hD hS hl
      · have h5 : -nI 100 < -nI v := (sb_nlt (by decide) hv).mpr hlt
        exact absurd h5 c_25
    | succ n ih =>
      intro v p' f H locs ls hvn hv hd hp he hF hP hD hS hl
      refine lv_iload_n hx hb dJ6_getChars_ba4f3_22 rfl (lv_at hl 0 rfl) ?_
      refine lv_bipush (v := (-100)) hx hb dJ6_getChars_ba4f3_23 (by decide) ?_
      refine lv_icmp_gt (tgt := 72) hx hb dJ6_getChars_ba4f3_25 (by decide) (fun c_25 => ?_) (fun c_25 => ?_)
      · have hlt : v < 100 := by
          rcases Nat.lt_or_ge v 100 with h | h
          · exact h
          · have h5 : -nI v ≤ -nI 100 := (sb_nle hv (by decide)).mpr h
            exact absurd c_25 (ft_nlt h5)
        rw [ft_dgs, if_neg (by omega)] at hF
        exact fin v p' f H locs ls hlt hd hp he hF hP hD hS hl
      · have hge : 100 ≤ v := by
          rcases Nat.lt_or_ge v 100 with h | h
          · have h5 : -nI 100 < -nI v := (sb_nlt (by decide) hv).mpr h
            exact absurd h5 c_25
          · exact h
        have hdg := sb_dg100 hge hv
        have hdi := sb_dg_in (v / 100)
        have hpw : 100 ^ (n + 1 + 1) = 100 ^ (n + 1) * 100 := Nat.pow_succ _ _
        rw [ft_dgs, if_pos hge] at hF
        have e1 : nI p' + (-1) = nI (p' - 1) := sb_m1 (by omega)
        have e2 : nI (p' - 1) + (-1) = nI (p' - 2) := sb_m1 (by omega)
        have er : tn (nI (v % 100)) = v % 100 := nI_clamp (by omega)
        have ep : tn (nI (p' - 1)) = p' - 1 := nI_clamp (by omega)
        have ep2 : tn (nI (p' - 2)) = p' - 2 := nI_clamp (by omega)
        refine lv_iload_n hx hb dJ6_getChars_ba4f3_28 rfl (lv_at hl 0 rfl) ?_
        refine lv_bipush (v := 100) hx hb dJ6_getChars_ba4f3_29 (by decide) ?_
        refine lv_idiv hx hb dJ6_getChars_ba4f3_31 (by decide) ?_
        rw [sb_ndiv hv]
        refine lv_istore_n (lv' := [(3, .int (-nI (v / 100))), (0, .int (-nI v)), (2, .ref (ad 0)), (5, .int (nI p')), (6, .int 0)]) hx hb dJ6_getChars_ba4f3_32 rfl hl (by decide) rfl (fun ls hl => ?_)
        refine lv_iload_n hx hb dJ6_getChars_ba4f3_33 rfl (lv_at hl 0 rfl) ?_
        refine lv_bipush (v := 100) hx hb dJ6_getChars_ba4f3_34 (by decide) ?_
        refine lv_imul hx hb dJ6_getChars_ba4f3_36 ?_
        refine lv_iload_n hx hb dJ6_getChars_ba4f3_37 rfl (lv_at hl 1 rfl) ?_
        refine lv_isub hx hb dJ6_getChars_ba4f3_38 ?_
        rw [sb_nrem hv]
        refine lv_istore (lv' := [(4, .int (nI (v % 100))), (3, .int (-nI (v / 100))), (0, .int (-nI v)), (2, .ref (ad 0)), (5, .int (nI p')), (6, .int 0)]) hx hb dJ6_getChars_ba4f3_39 hl (by decide) rfl (fun ls hl => ?_)
        refine lv_iload_n hx hb dJ6_getChars_ba4f3_41 rfl (lv_at hl 1 rfl) ?_
        refine lv_istore_n (lv' := [(0, .int (-nI (v / 100))), (4, .int (nI (v % 100))), (3, .int (-nI (v / 100))), (2, .ref (ad 0)), (5, .int (nI p')), (6, .int 0)]) hx hb dJ6_getChars_ba4f3_42 rfl hl (by decide) rfl (fun ls hl => ?_)
        refine lv_aload_n hx hb dJ6_getChars_ba4f3_43 rfl (lv_at hl 3 rfl) ?_
        refine lv_iinc (v := nI p' + (-1)) (lv' := [(5, .int (nI p' + (-1))), (0, .int (-nI (v / 100))), (4, .int (nI (v % 100))), (3, .int (-nI (v / 100))), (2, .ref (ad 0)), (6, .int 0)]) hx hb dJ6_getChars_ba4f3_44 hl (k := 4) rfl rfl (by decide) rfl (fun ls hl => ?_)
        rw [e1] at hl
        refine lv_iload hx hb dJ6_getChars_ba4f3_47 (lv_at hl 0 rfl) ?_
        refine va_gets (C := "java/lang/Integer") (n := "DigitOnes") (d := "[B") hx hb hE.2.2.d1 hS hown (hts (.fieldLink RJ6 83 "java/lang/Integer" "DigitOnes" "[B") (by decide +kernel)) (fun _ h9 => h9) dJ6_getChars_ba4f3_49 ?_
        refine lv_iload hx hb dJ6_getChars_ba4f3_52 (lv_at hl 2 rfl) ?_
        refine va_tb (v := .int (nI (48 + v % 100 % 10))) hx hb hE.2.2.d1t hS (vp_in_nI (by omega) (by omega)) (by show Value.int (nI (48 + tn (nI (v % 100)) % 10)) = _; rw [er]) dJ6_getChars_ba4f3_54 ?_
        refine va_bast hx hb hK.1 hP hD hS 0 4 (ft_get' (by decide) rfl) rfl (show vp_in (nI (p' - 1)) u.1 from vp_in_nI (by omega) (by omega)) dJ6_getChars_ba4f3_55 (fun H locs hP hD hS => ?_)
        have hP := ft_cast hP (ft_Y_s (k := k) (ad := ad))
        have hD := ft_castD hD (ft_Y_s (k := k) (ad := ad))
        have hP : va_P dC vwCl (ft_WY ad k (u.1, va_up f (tn (nI (p' - 1))) (ft_b8 (nI (48 + v % 100 % 10))))) H := hP
        have hD : va_D (ft_A 1 ad) (ft_WY ad k (u.1, va_up f (tn (nI (p' - 1))) (ft_b8 (nI (48 + v % 100 % 10))))) := hD
        rw [ep] at hP hD
        refine lv_aload_n hx hb dJ6_getChars_ba4f3_56 rfl (lv_at hl 4 rfl) ?_
        refine lv_iinc (v := nI (p' - 1) + (-1)) (lv' := [(5, .int (nI (p' - 1) + (-1))), (0, .int (-nI (v / 100))), (4, .int (nI (v % 100))), (3, .int (-nI (v / 100))), (2, .ref (ad 0)), (6, .int 0)]) hx hb dJ6_getChars_ba4f3_57 hl (k := 0) rfl rfl (by decide) rfl (fun ls hl => ?_)
        rw [e2] at hl
        refine lv_iload hx hb dJ6_getChars_ba4f3_60 (lv_at hl 0 rfl) ?_
        refine va_gets (C := "java/lang/Integer") (n := "DigitTens") (d := "[B") hx hb hE.2.2.d2 hS hown (hts (.fieldLink RJ6 87 "java/lang/Integer" "DigitTens" "[B") (by decide +kernel)) (fun _ h9 => h9) dJ6_getChars_ba4f3_62 ?_
        refine lv_iload hx hb dJ6_getChars_ba4f3_65 (lv_at hl 2 rfl) ?_
        refine va_tb (v := .int (nI (48 + v % 100 / 10))) hx hb hE.2.2.d2t hS (vp_in_nI (by omega) (by omega)) (by show Value.int (nI (48 + tn (nI (v % 100)) / 10)) = _; rw [er]) dJ6_getChars_ba4f3_67 ?_
        refine va_bast hx hb hK.1 hP hD hS 0 4 (ft_get' (by decide) rfl) rfl (show vp_in (nI (p' - 2)) u.1 from vp_in_nI (by omega) (by omega)) dJ6_getChars_ba4f3_68 (fun H locs hP hD hS => ?_)
        have hP := ft_cast hP (ft_Y_s (k := k) (ad := ad))
        have hD := ft_castD hD (ft_Y_s (k := k) (ad := ad))
        have hP : va_P dC vwCl (ft_WY ad k (u.1, va_up (va_up f (p' - 1) (ft_b8 (nI (48 + v % 100 % 10)))) (tn (nI (p' - 2))) (ft_b8 (nI (48 + v % 100 / 10))))) H := hP
        have hD : va_D (ft_A 1 ad) (ft_WY ad k (u.1, va_up (va_up f (p' - 1) (ft_b8 (nI (48 + v % 100 % 10)))) (tn (nI (p' - 2))) (ft_b8 (nI (48 + v % 100 / 10))))) := hD
        rw [ep2] at hP hD
        refine lv_goto (tgt := 22) hx hb dJ6_getChars_ba4f3_69 (by decide) ?_
        exact ih (v / 100) (p' - 2) _ H locs ls (by omega) (by omega) (by omega) (by omega) (by omega) hF hP hD hS (lv_sub hl [1, 4, 0, 5] rfl)
  refine lv_iload_n hx hb dJ6_getChars_ba4f3_0 rfl (lv_at hl 1 rfl) ?_
  refine lv_istore (lv' := [(5, .int x2), (0, .int x1), (1, .int x2), (2, .ref (ad 0))]) hx hb dJ6_getChars_ba4f3_1 hl (by decide) rfl (fun ls hl => ?_)
  refine lv_iload_n hx hb dJ6_getChars_ba4f3_3 rfl (lv_at hl 1 rfl) ?_
  refine lv_if_ge (tgt := 11) hx hb dJ6_getChars_ba4f3_4 (by decide) (fun c_4 => ?_) (fun c_4 => absurd (by rw [h1]; exact nI_pos' hv0) c_4)
  refine lv_iconst (v := 0) hx hb dJ6_getChars_ba4f3_11 (by decide) ?_
  refine lv_istore (lv' := [(6, .int 0), (5, .int x2), (0, .int x1), (1, .int x2), (2, .ref (ad 0))]) hx hb dJ6_getChars_ba4f3_12 hl (by decide) rfl (fun ls hl => ?_)
  refine lv_iload hx hb dJ6_getChars_ba4f3_14 (lv_at hl 0 rfl) ?_
  refine lv_if_ne (tgt := 22) hx hb dJ6_getChars_ba4f3_16 (by decide) (fun c_16 => absurd rfl c_16) (fun c_16 => ?_)
  refine lv_iload_n hx hb dJ6_getChars_ba4f3_19 rfl (lv_at hl 2 rfl) ?_
  refine lv_ineg hx hb dJ6_getChars_ba4f3_20 ?_
  refine lv_istore_n (lv' := [(0, .int (-x1)), (6, .int 0), (5, .int x2), (1, .int x2), (2, .ref (ad 0))]) hx hb dJ6_getChars_ba4f3_21 rfl hl (by decide) rfl (fun ls hl => ?_)
  rw [h1, h2] at hl
  exact loop 5 v0 p0 u.2 s.heap [] ls (by have : (100 : Nat) ^ (5 + 1) = 1000000000000 := by decide
                                          omega) hv0 hd0 hp0 rfl rfl hP hD hS (lv_sub hl [0, 4, 2, 1] rfl)
