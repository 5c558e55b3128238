/-! a row of ints, and Arrays.fill of it -/
def ft_I (k : Nat → ClassId) (u : Nat × (Nat → Int32)) : Nat → va_E := fun _ => .inl (k 0, u.1, .inl u.2)
abbrev ft_WI (ad : Nat → Nat) (k : Nat → ClassId) (u : Nat × (Nat → Int32)) : va_W := ft_W 1 ad (ft_I k u)
theorem ft_I_s {ad : Nat → Nat} {k : Nat → ClassId} {m : Nat} {f : Nat → Int32} {i : Nat} {v : Int32} : (ft_WI ad k (m, f)).set 0 (ad 0, .inl (k 0, m, .inl (upd f i v))) = ft_WI ad k (m, va_up f i v) := by
  refine ft_set' (fun j hj => ?_)
  match j, hj with
  | 0, _ =>
    rw [va_up_self]
    refine congrArg (fun g => (.inl (k 0, m, .inl g) : va_E)) (funext fun x => ?_)
    show upd f i v x = va_up f i v x
    by_cases hx : x = i
    · subst hx; rw [va_up_self]; simp [upd]
    · rw [va_up_ne _ _ hx]; simp [upd, hx]
/-- the first n places hold v -/
def ft_fl (f : Nat → Int32) (v : Int32) (n : Nat) : Nat → Int32 := fun j => if j < n then v else f j
theorem ft_fl_s (f : Nat → Int32) (v : Int32) (n : Nat) : va_up (ft_fl f v n) n v = ft_fl f v (n + 1) := funext fun j => by
  unfold ft_fl
  by_cases h : j = n
  · subst h; rw [va_up_self, if_pos (by omega)]
  · rw [va_up_ne _ _ h]
    by_cases h2 : j < n
    · rw [if_pos h2, if_pos (by omega)]
    · rw [if_neg h2, if_neg (by omega)]
theorem ft_fl_0 (f : Nat → Int32) (v : Int32) : ft_fl f v 0 = f := funext fun j => if_neg (by omega)
set_option maxHeartbeats 4000000 in
set_option maxRecDepth 100000 in
theorem c_J7_fill_53178 (l : Launch) (dC : va_G) (ad : Nat → Nat) (k : Nat → ClassId) (u : Nat × (Nat → Int32)) (x2 : Int32) (h1 : u.1 < 2 ^ 31) : Met l yJ7_fill_53178 wsJ7_fill_53178 ({ frames := 0, cells := 0, slots := 0, locals := 0 }) (ft_Pd dC k [.ref (ad 0), .int x2] (ft_WI ad k u)) (va_Qv (fun f : Nat → Int32 => f = ft_fl u.2 x2 u.1) (fun (f : Nat → Int32) (t : State) => va_P dC vwCl (ft_WI ad k (u.1, f)) t.heap) (ft_A 1 ad)) 0 0 (ft_A 1 ad) := by
  refine va_MetF (cc := cJ7_fill_53178) (maxL := 4) (ret := none) (by decide +kernel) rfl ?_
  intro p e s m args below meth c s₁ B hml hv
  obtain ⟨hargs, hP, hK, hD0⟩ := hv
  subst hargs
  have hx := B.exec
  have hb := B.bytes
  have hr := B.returns
  have hlocks := B.notSynchronized
  have hD := ft_D_self hD0
  have hS : va_S (ft_A 1 ad) s.heap s.heap [] := va_S.rf
  have hl := lv_entry ([.ref (ad 0), .int x2]) (n := 4) (Nat.le_of_ble_eq_true rfl)
  rw [lg_entry_eq]
  generalize (lg_sl ([.ref (ad 0), .int x2]) ++ List.replicate (4 - (lg_sl ([.ref (ad 0), .int x2])).length) Slot.unset).toArray = ls at hl ⊢
  have hl : lv_has ls 4 [(0, .ref (ad 0)), (1, .int x2)] := hl
  have loop : ∀ (n i : Nat) (H : Heap) (locs : List Loc) (ls : Array Slot), i ≤ u.1 → u.1 < n + i → va_P dC vwCl (ft_WI ad k (u.1, ft_fl u.2 x2 i)) H → va_D (ft_A 1 ad) (ft_WI ad k (u.1, ft_fl u.2 x2 i)) → va_S (ft_A 1 ad) s.heap H locs → lv_has ls 4 [(0, .ref (ad 0)), (1, .int x2), (2, .int (nI i)), (3, .int (nI u.1))] → W p l e (headSpec wsJ7_fill_53178 ({ frames := 0, cells := 0, slots := 0, locals := 0 })).room s m ([.ref (ad 0), .int x2] : List Value).toArray below meth c H locs 0 0 (MQ below (va_Qv (fun f : Nat → Int32 => f = ft_fl u.2 x2 u.1) (fun (f : Nat → Int32) (t : State) => va_P dC vwCl (ft_WI ad k (u.1, f)) t.heap) (ft_A 1 ad)) ([.ref (ad 0), .int x2] : List Value).toArray s 0 0 (ft_A 1 ad)) (F0 m 5 ls []) := by
    intro n
    induction n with
    | zero => intro i H locs ls h2 h3; omega
    | succ n ih =>
      intro i H locs ls h2 h3 hP hD hS hl
      have ei : tn (nI i) = i := nI_clamp (by omega)
      refine lv_iload_n hx hb dJ7_fill_53178_5 rfl (lv_at hl 2 rfl) ?_
      refine lv_iload_n hx hb dJ7_fill_53178_6 rfl (lv_at hl 3 rfl) ?_
      refine lv_icmp_ge (tgt := 20) hx hb dJ7_fill_53178_7 (by decide) (fun c_7 => ?_) (fun c_7 => ?_)
      · have hlt : i = u.1 := by
          rcases Nat.lt_or_ge i u.1 with h | h
          · exact absurd c_7 (nI_ge h h1)
          · omega
        subst hlt
        exact W.vret hx hb hr (fun t ht hW => ⟨⟨_, rfl, rfl, ft_heap ht hP⟩, hS.F ht⟩) hS.2.2 dJ7_fill_53178_20
      · have hlt : i < u.1 := by
          rcases Nat.lt_or_ge i u.1 with h | h
          · exact h
          · exact absurd (nI_le h (by omega)) c_7
        refine lv_aload_n hx hb dJ7_fill_53178_10 rfl (lv_at hl 0 rfl) ?_
        refine lv_iload_n hx hb dJ7_fill_53178_11 rfl (lv_at hl 2 rfl) ?_
        refine lv_iload_n hx hb dJ7_fill_53178_12 rfl (lv_at hl 1 rfl) ?_
        refine va_iast hx hb hK.1 hP hD hS 0 0 (ft_get' (by decide) rfl) rfl (show vp_in (nI i) u.1 from vp_in_nI hlt h1) dJ7_fill_53178_13 (fun H locs hP hD hS => ?_)
        have hP := ft_cast hP (ft_I_s (k := k) (ad := ad))
        have hD := ft_castD hD (ft_I_s (k := k) (ad := ad))
        have hP : va_P dC vwCl (ft_WI ad k (u.1, va_up (ft_fl u.2 x2 i) (tn (nI i)) x2)) H := hP
        have hD : va_D (ft_A 1 ad) (ft_WI ad k (u.1, va_up (ft_fl u.2 x2 i) (tn (nI i)) x2)) := hD
        rw [ei, ft_fl_s] at hP hD
        refine lv_iinc (v := nI i + 1) (lv' := [(2, .int (nI i + 1)), (0, .ref (ad 0)), (1, .int x2), (3, .int (nI u.1))]) hx hb dJ7_fill_53178_14 hl (k := 2) rfl rfl (by decide) rfl (fun ls hl => ?_)
        rw [nI_1] at hl
        refine lv_goto (tgt := 5) hx hb dJ7_fill_53178_17 (by decide) ?_
        exact ih (i + 1) H locs ls (by omega) (by omega) hP hD hS (lv_sub hl [1, 2, 0, 3] rfl)
  refine lv_iconst (v := 0) hx hb dJ7_fill_53178_0 (by decide) ?_
  refine lv_istore_n (lv' := [(2, .int 0), (0, .ref (ad 0)), (1, .int x2)]) hx hb dJ7_fill_53178_1 rfl hl (by decide) rfl (fun ls hl => ?_)
  refine lv_aload_n hx hb dJ7_fill_53178_2 rfl (lv_at hl 1 rfl) ?_
  refine va_alen (v := nI u.1) hx hb hK.1 hP 0 0 (ft_get' (by decide) rfl) rfl rfl dJ7_fill_53178_3 ?_
  refine lv_istore_n (lv' := [(3, .int (nI u.1)), (2, .int 0), (0, .ref (ad 0)), (1, .int x2)]) hx hb dJ7_fill_53178_4 rfl hl (by decide) rfl (fun ls hl => ?_)
  exact loop (u.1 + 1) 0 s.heap [] ls (by omega) (by omega) (by rw [ft_fl_0]; exact hP) (by rw [ft_fl_0]; exact hD) hS (lv_sub hl [2, 3, 1, 0] rfl)
