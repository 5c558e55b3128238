/-! new objects in a row: each brings its cells behind the world's -/
def ft_AO (U : State) : Prop := va_AO RX6 U ∧ va_AO RX4 U ∧ va_AO RX5 U
theorem ft_AO.moved {u U : State} (h : u.vm.Alike U.vm) (hA : ft_AO u) : ft_AO U := ⟨va_AO.moved h hA.1, va_AO.moved h hA.2.1, va_AO.moved h hA.2.2⟩
def ft_Pk (D : va_G) (k : Nat → ClassId) (Z : Nat → Nat → Nat) (A : Nat → Prop) (av : List Value) (ws : va_W) (sz : Nat) : Array Value → State → Prop := va_Pc av (fun U => va_P D vwCl ws U.heap ∧ ft_E D k Z A U ∧ va_D (fun _ => True) ws ∧ sz ≤ U.heap.size ∧ ft_AO U)
theorem ft_Pk.blind {D : va_G} {k : Nat → ClassId} {Z : Nat → Nat → Nat} {A : Nat → Prop} {av : List Value} {ws : va_W} {sz : Nat} : FrameBlind (ft_Pk D k Z A av ws sz) := fun _ U _ _ q => ⟨q.1, q.2.1, q.2.2.1.same (u := U) rfl rfl, q.2.2.2.1, q.2.2.2.2.1, ft_AO.moved (u := U) (Vm.Alike.refl U.vm) q.2.2.2.2.2⟩
/-- the start of a constructor: its own blank cell, the name n of the world -/
theorem ft_one1 {D : va_G} {n : Nat} {f : Nat → Nat} {va : Nat → va_E} {H : Heap} (hP : va_P D vwCl (ft_W (n + 1) f va) H) : va_P D vwCl (ft_W 1 (fun _ => f n) (fun _ => va n)) H := ft_P_sub hP (fun _ => n) (fun _ _ => by omega) (fun _ _ => rfl) (fun _ _ => rfl)
theorem ft_one2 {A : Nat → Prop} {n : Nat} {f : Nat → Nat} {va : Nat → va_E} (hD : va_D A (ft_W (n + 1) f va)) : va_D (fun _ => True) (ft_W 1 (fun _ => f n) (fun _ => va n)) := (ft_D_sub hD (fun _ => n) (fun _ _ => by omega) (fun i j hi hj _ => by omega) (fun _ _ => rfl)).weaken (fun _ _ _ _ => trivial)
theorem ft_preK {D : va_G} {k : Nat → ClassId} {Z : Nat → Nat → Nat} {A B : Nat → Prop} {s : State} {H : Heap} {locs : List Loc} {n : Nat} {f : Nat → Nat} {va : Nat → va_E} {A' : Nat → Prop} (hE : ft_E D k Z A s) (hO : ft_AO s) (hS : va_S A s.heap H locs) (hAB : ∀ q, B q → A q) (hP : va_P D vwCl (ft_W (n + 1) f va) H) (hD : va_D A' (ft_W (n + 1) f va)) : PreS s H (ft_Pk D k Z B [.ref (f n)] (ft_W 1 (fun _ => f n) (fun _ => va n)) H.size) [.ref (f n)] :=
  ⟨ft_Pk.blind, fun U hU hW => ⟨rfl, by rw [hU]; exact ft_one1 hP, hE.go hS hAB hU hW, ft_one2 hD, by rw [hU]; exact Nat.le_refl _, ft_AO.moved hW.alike hO⟩⟩
theorem ft_preKg {D : va_G} {k : Nat → ClassId} {s : State} {H : Heap} {n : Nat} {f : Nat → Nat} {va : Nat → va_E} {A' : Nat → Prop} (hK : ft_K D k s) (hP : va_P D vwCl (ft_W (n + 1) f va) H) (hD : va_D A' (ft_W (n + 1) f va)) : PreS s H (ft_Pg D k [.ref (f n)] (ft_W 1 (fun _ => f n) (fun _ => va n)) H.size) [.ref (f n)] :=
  ⟨ft_Pg.blind, fun U hU hW => ⟨rfl, by rw [hU]; exact ft_one1 hP, hK.warm hW, ft_one2 hD, by rw [hU]; exact Nat.le_refl _⟩⟩
theorem ft_preKh {D : va_G} {k : Nat → ClassId} {Z : Nat → Nat → Nat} {A B : Nat → Prop} {s : State} {H : Heap} {locs : List Loc} {n : Nat} {f : Nat → Nat} {va : Nat → va_E} {A' : Nat → Prop} (hE : ft_E D k Z A s) (hS : va_S A s.heap H locs) (hAB : ∀ q, B q → A q) (hP : va_P D vwCl (ft_W (n + 1) f va) H) (hD : va_D A' (ft_W (n + 1) f va)) : PreS s H (ft_Ph D k Z B [.ref (f n)] (ft_W 1 (fun _ => f n) (fun _ => va n)) H.size) [.ref (f n)] :=
  ⟨ft_Ph.blind, fun U hU hW => ⟨rfl, by rw [hU]; exact ft_one1 hP, hE.go hS hAB hU hW, ft_one2 hD, by rw [hU]; exact Nat.le_refl _⟩⟩
theorem ft_snoc {n q : Nat} {f : Nat → Nat} {va : Nat → va_E} {e : va_E} : ft_W n f va ++ [(q, e)] = ft_W (n + 1) (va_up f n q) (va_up va n e) := by
  apply List.ext_getElem?
  intro k
  by_cases hk : k < n
  · rw [List.getElem?_append_left (by rw [ft_len]; exact hk), ft_get hk, ft_get (by omega), va_up_ne _ _ (by omega), va_up_ne _ _ (by omega)]
  · by_cases h2 : k = n
    · subst h2
      rw [List.getElem?_append_right (by rw [ft_len]; exact Nat.le_refl _), ft_get (by omega), va_up_self, va_up_self, ft_len, Nat.sub_self]
      rfl
    · rw [List.getElem?_eq_none (by rw [List.length_append, ft_len]; simp; omega), List.getElem?_eq_none (by rw [ft_len]; omega)]
theorem ft_app2 {D : va_G} {cl : List vw_C} {A : Nat → Prop} {n m : Nat} {f g : Nat → Nat} {va vb : Nat → va_E} {H H1 : Heap} (hP : va_P D cl (ft_W (n + 1) f va) H) (hD : va_D A (ft_W (n + 1) f va)) (hk : ∀ x : Nat, x < H.size → ¬ ft_An 1 (fun _ => f n) H.size x → H1[x]? = H[x]?) (hB : va_P D cl (ft_W m g vb) H1) (hDB : va_D (ft_An 1 (fun _ => f n) H.size) (ft_W m g vb)) (hA : ∀ x, H.size ≤ x → A x) : va_P D cl (ft_W (n + m) (ft_bl n f g) (ft_bl n va vb)) H1 ∧ va_D A (ft_W (n + m) (ft_bl n f g) (ft_bl n va vb)) := by
  have hlt : ∀ j, j < n + 1 → f j < H.size := fun j hj => (hP j _ (ft_get hj)).lt
  have hinj : ∀ i j, i < n + 1 → j < n + 1 → f i = f j → i = j := fun i j hi hj e => hD.1 i j _ _ (ft_get hi) (ft_get hj) e
  have hgA : ∀ y, y < m → g y = f n ∨ H.size ≤ g y := fun y hy => by
    rcases hDB.2 y _ (ft_get hy) with ⟨i, -, e⟩ | h
    · exact Or.inl e
    · exact Or.inr h
  refine ⟨fun j x hx => ?_, fun i j x y hx hy e => ?_, fun j x hx => ?_⟩
  · obtain ⟨hj, rfl⟩ := ft_of hx
    by_cases h : j < n
    · show va_at D cl (ft_bl n f g j, ft_bl n va vb j) H1
      rw [ft_bl_lo h, ft_bl_lo h]
      have h0 := hP j _ (ft_get (by omega))
      refine h0.kept (hk (f j) h0.lt (fun hh => ?_))
      rcases hh with ⟨i, -, e⟩ | e
      · have e : f j = f n := e
        have := hinj j n (by omega) (by omega) e
        omega
      · exact absurd h0.lt (Nat.not_lt.mpr e)
    · obtain ⟨y, rfl⟩ : ∃ y, j = n + y := ⟨j - n, by omega⟩
      show va_at D cl (ft_bl n f g (n + y), ft_bl n va vb (n + y)) H1
      rw [ft_bl_hi, ft_bl_hi]
      exact hB y _ (ft_get (by omega))
  · obtain ⟨hi, rfl⟩ := ft_of hx
    obtain ⟨hj, rfl⟩ := ft_of hy
    have e : ft_bl n f g i = ft_bl n f g j := e
    by_cases h1 : i < n
    · by_cases h2 : j < n
      · rw [ft_bl_lo h1, ft_bl_lo h2] at e
        exact hinj i j (by omega) (by omega) e
      · obtain ⟨y, rfl⟩ : ∃ y, j = n + y := ⟨j - n, by omega⟩
        rw [ft_bl_lo h1, ft_bl_hi] at e
        have hi' := hlt i (by omega)
        rcases hgA y (by omega) with h | h
        · have := hinj i n (by omega) (by omega) (e.trans h); omega
        · omega
    · obtain ⟨y, rfl⟩ : ∃ y, i = n + y := ⟨i - n, by omega⟩
      by_cases h2 : j < n
      · rw [ft_bl_lo h2, ft_bl_hi] at e
        have hj' := hlt j (by omega)
        rcases hgA y (by omega) with h | h
        · have := hinj j n (by omega) (by omega) (e.symm.trans h); omega
        · omega
      · obtain ⟨z, rfl⟩ : ∃ z, j = n + z := ⟨j - n, by omega⟩
        rw [ft_bl_hi, ft_bl_hi] at e
        have := hDB.1 y z _ _ (ft_get (by omega)) (ft_get (by omega)) e
        omega
  · obtain ⟨hj, rfl⟩ := ft_of hx
    show A (ft_bl n f g j)
    by_cases h : j < n
    · rw [ft_bl_lo h]; exact hD.2 j _ (ft_get (by omega))
    · obtain ⟨y, rfl⟩ : ∃ y, j = n + y := ⟨j - n, by omega⟩
      rw [ft_bl_hi]
      rcases hgA y (by omega) with h | h
      · rw [h]; exact hD.2 n _ (ft_get (by omega))
      · exact hA _ h
theorem ft_P_im {D : va_G} {cl : List vw_C} {n m : Nat} {f g : Nat → Nat} {va vb : Nat → va_E} {H : Heap} (hP : va_P D cl (ft_W n f va) H) (p : Nat → Nat) (h : ∀ j, j < m → p j < n ∧ (va_at D cl (f (p j), va (p j)) H → va_at D cl (g j, vb j) H)) : va_P D cl (ft_W m g vb) H := by
  intro j x hx
  obtain ⟨hj, rfl⟩ := ft_of hx
  exact (h j hj).2 (hP (p j) _ (ft_get (h j hj).1))
theorem ft_newA {A : Nat → Prop} {n sz : Nat} {f : Nat → Nat} {va : Nat → va_E} {a : Nat} (hD : va_D (ft_An 1 (fun _ => a) sz) (ft_W n f va)) (h0 : f 0 = a) {j : Nat} (hj : j < n) (h : 1 ≤ j) : sz ≤ f j := by
  rcases hD.2 j _ (ft_get hj) with ⟨i, -, e⟩ | h9
  · have e : f j = a := e
    have := hD.1 0 j _ _ (ft_get (by omega)) (ft_get hj) (h0.trans e.symm)
    omega
  · exact h9
theorem ft_ar_sh {r r' : Nat → Int32} {b b' n : Nat} (h : ∀ j, j < n → r (b + j) = r' (b' + j)) : ft_ar r b n = ft_ar r' b' n := by
  funext j
  simp only [ft_ar]
  by_cases hj : j < n
  · simp [hj, h j hj]
  · simp [hj]
theorem ft_T_sh {f : Nat → Nat} {k : Nat → ClassId} {r r' : Nat → Int32} {b b' x : Nat} (h : ∀ y, y < 17 → r (b + y) = r' (b' + y)) : ft_T f k r b x = ft_T f k r' b' x := by
  match x with
  | 0 => show (.inr (8, [.ref (f 1), .ref (f 2), .int (r (b + 2)), .int (r (b + 1)), .int (r (b + 0)), .int (r (b + 3))]) : va_E) = .inr (8, [.ref (f 1), .ref (f 2), .int (r' (b' + 2)), .int (r' (b' + 1)), .int (r' (b' + 0)), .int (r' (b' + 3))]); rw [h 2 (by decide), h 1 (by decide), h 0 (by decide), h 3 (by decide)]
  | 1 => show (.inl (k 0, 4, .inl (ft_ar r (b + 4) 4)) : va_E) = .inl (k 0, 4, .inl (ft_ar r' (b' + 4) 4)); rw [show ft_ar r (b + 4) 4 = ft_ar r' (b' + 4) 4 from ft_ar_sh (fun j hj => by have e := h (4 + j) (by omega); rw [← Nat.add_assoc, ← Nat.add_assoc] at e; exact e)]
  | x + 2 => show (.inl (k 0, 9, .inl (ft_ar r (b + 8) 9)) : va_E) = .inl (k 0, 9, .inl (ft_ar r' (b' + 8) 9)); rw [show ft_ar r (b + 8) 9 = ft_ar r' (b' + 8) 9 from ft_ar_sh (fun j hj => by have e := h (8 + j) (by omega); rw [← Nat.add_assoc, ← Nat.add_assoc] at e; exact e)]
/-- a new Square's row -/
def ft_r0 : Nat → Int32 := fun j => if j = 3 then 1 else if 8 ≤ j ∧ j < 12 then 5 else if 16 ≤ j ∧ j < 51 then -1 else 0

def ft_hS (k : Nat → ClassId) (a : Nat) (F : Nat → Nat) : Nat → va_E := fun j => match j with
  | 0 => .inr (6, [.ref (F 1), .ref (F 2), .ref (F 3), .ref (F 4), .int 0, .int 0, .int 0, .int 1, .int 0, .int 0, .int 0, .int 0])
  | 1 => .inl (k 1, 6, .inr (.inr (.inr (.inr (fun j => if j < a then some (F (5 + 3 * j)) else none)))))
  | 2 => .inl (k 0, 35, .inl (fun _ => 0))
  | 3 => .inl (k 0, 4, .inl (fun _ => 0))
  | _ => .inl (k 0, 4, .inl (fun _ => 0))
def ft_cS (k : Nat → ClassId) (a : Nat) (F : Nat → Nat) : Nat → va_E := fun j => if j < 5 then ft_hS k a F j else ft_T (fun x => F (5 + 3 * ((j - 5) / 3) + x)) k (fun _ => 0) 0 ((j - 5) % 3)

theorem ft_hS_ad {D : va_G} {cl : List vw_C} {k : Nat → ClassId} {a x : Nat} {F F' : Nat → Nat} {H : Heap} (h : ∀ y, y < 5 + 3 * a → F' y = F y) (hx : x < 5) (hP : va_at D cl (F x, ft_hS k a F x) H) : va_at D cl (F' x, ft_hS k a F' x) H := by
  match x, hx with
  | 0, _ => exact ft_ate (h 0 (by omega)) (by show (.inr (6, [.ref (F' 1), .ref (F' 2), .ref (F' 3), .ref (F' 4), .int 0, .int 0, .int 0, .int 1, .int 0, .int 0, .int 0, .int 0]) : va_E) = .inr (6, [.ref (F 1), .ref (F 2), .ref (F 3), .ref (F 4), .int 0, .int 0, .int 0, .int 1, .int 0, .int 0, .int 0, .int 0]); rw [h 1 (by omega), h 2 (by omega), h 3 (by omega), h 4 (by omega)]) hP
  | 1, _ => exact ft_atq (h 1 (by omega)) (fun j _ => ite_congr rfl (fun hj => congrArg some (h (5 + 3 * j) (by omega)).symm) (fun _ => rfl)) hP
  | 2, _ => exact ft_ate (h 2 (by omega)) rfl hP
  | 3, _ => exact ft_ate (h 3 (by omega)) rfl hP
  | 4, _ => exact ft_ate (h 4 (by omega)) rfl hP
theorem ft_eS_ad {D : va_G} {cl : List vw_C} {k : Nat → ClassId} {x : Nat} {g g' : Nat → Nat} {H : Heap} (h : ∀ y, y < 3 → g' y = g y) (hx : x < 3) (hP : va_at D cl (g x, ft_T g k (fun _ => 0) 0 x) H) : va_at D cl (g' x, ft_T g' k (fun _ => 0) 0 x) H := ft_ate (h x hx) (ft_T_ad h) hP
theorem ft_cS_go {D : va_G} {cl : List vw_C} {A : Nat → Prop} {k : Nat → ClassId} {i q : Nat} {F g : Nat → Nat} {bl : va_E} {H H1 : Heap} (hP : va_P D cl (ft_W (5 + 3 * i + 1) (va_up F (5 + 3 * i) q) (va_up (ft_cS k i F) (5 + 3 * i) bl)) H) (hD : va_D A (ft_W (5 + 3 * i + 1) (va_up F (5 + 3 * i) q) (va_up (ft_cS k i F) (5 + 3 * i) bl))) (hk : ∀ x : Nat, x < H.size → ¬ ft_An 1 (fun _ => q) H.size x → H1[x]? = H[x]?) (hB : va_P D cl (ft_W 3 g (fun x => ft_T g k (fun _ => 0) 0 x)) H1) (hDB : va_D (ft_An 1 (fun _ => q) H.size) (ft_W 3 g (fun x => ft_T g k (fun _ => 0) 0 x))) (hA : ∀ x, H.size ≤ x → A x) : va_P D cl (ft_W (5 + 3 * (i + 1)) (ft_bl (5 + 3 * i) F g) (ft_cS k i (ft_bl (5 + 3 * i) F g))) H1 ∧ va_D A (ft_W (5 + 3 * (i + 1)) (ft_bl (5 + 3 * i) F g) (ft_cS k i (ft_bl (5 + 3 * i) F g))) := by
  have hq : va_up F (5 + 3 * i) q (5 + 3 * i) = q := va_up_self _ _ _
  have h := ft_app2 (n := 5 + 3 * i) (m := 3) (g := g) (vb := fun x => ft_T g k (fun _ => 0) 0 x) hP hD (by rw [hq]; exact hk) hB (by rw [hq]; exact hDB) hA
  have hlo : ∀ y, y < 5 + 3 * i → ft_bl (5 + 3 * i) F g y = F y := fun y hy => ft_bl_lo hy
  refine ⟨ft_P_im h.1 (fun j => j) (fun j hj => ⟨by omega, fun h9 => ?_⟩), ft_D_sub h.2 (fun j => j) (fun j hj => by omega) (fun _ _ _ _ e => e) (fun j hj => ?_)⟩
  · have h9 : va_at D cl (ft_bl (5 + 3 * i) (va_up F (5 + 3 * i) q) g j, ft_bl (5 + 3 * i) (va_up (ft_cS k i F) (5 + 3 * i) bl) (fun x => ft_T g k (fun _ => 0) 0 x) j) H1 := h9
    by_cases h1 : j < 5 + 3 * i
    · rw [ft_bl_lo h1, ft_bl_lo h1, va_up_ne _ _ (by omega), va_up_ne _ _ (by omega)] at h9
      by_cases h2 : j < 5
      · unfold ft_cS at h9 ⊢
        rw [if_pos h2] at h9 ⊢
        exact ft_hS_ad hlo h2 h9
      · unfold ft_cS at h9 ⊢
        rw [if_neg h2] at h9 ⊢
        have e1 : F j = (fun x => F (5 + 3 * ((j - 5) / 3) + x)) ((j - 5) % 3) := congrArg F (by omega)
        have e2 : ft_bl (5 + 3 * i) F g j = (fun x => ft_bl (5 + 3 * i) F g (5 + 3 * ((j - 5) / 3) + x)) ((j - 5) % 3) := congrArg (ft_bl (5 + 3 * i) F g) (by omega)
        rw [e1] at h9
        rw [e2]
        exact ft_eS_ad (g := fun x => F (5 + 3 * ((j - 5) / 3) + x)) (g' := fun x => ft_bl (5 + 3 * i) F g (5 + 3 * ((j - 5) / 3) + x)) (fun y hy => hlo _ (by omega)) (by omega) h9
    · obtain ⟨x, hx, rfl⟩ : ∃ x, x < 3 ∧ j = 5 + 3 * i + x := ⟨j - (5 + 3 * i), by omega, by omega⟩
      rw [ft_bl_hi, ft_bl_hi] at h9
      unfold ft_cS
      rw [if_neg (by omega)]
      have e1 : (5 + 3 * i + x - 5) / 3 = i := by omega
      have e2 : (5 + 3 * i + x - 5) % 3 = x := by omega
      rw [e1, e2]
      exact ft_eS_ad (g := g) (g' := fun x => ft_bl (5 + 3 * i) F g (5 + 3 * i + x)) (fun y hy => ft_bl_hi) hx h9
  · by_cases h1 : j < 5 + 3 * i
    · rw [ft_bl_lo h1, ft_bl_lo h1, va_up_ne _ _ (by omega)]
    · obtain ⟨x, rfl⟩ : ∃ x, j = 5 + 3 * i + x := ⟨j - (5 + 3 * i), by omega⟩
      rw [ft_bl_hi, ft_bl_hi]
theorem ft_cS_st {k : Nat → ClassId} {i q : Nat} {F : Nat → Nat} (hi : i < 6) (hq : F (5 + 3 * i) = q) : (ft_W (5 + 3 * (i + 1)) F (ft_cS k i F)).set 1 (F 1, .inl (k 1, 6, .inr (.inr (.inr (.inr (va_up (fun j => if j < i then some (F (5 + 3 * j)) else none) (tn (nI i)) (some q))))))) = ft_W (5 + 3 * (i + 1)) F (ft_cS k (i + 1) F) := by
  rw [show tn (nI i) = i from nI_clamp (by omega)]
  refine ft_set' (fun j hj => ?_)
  by_cases h1 : j = 1
  · subst h1
    rw [va_up_self]
    show _ = (.inl (k 1, 6, .inr (.inr (.inr (.inr (fun j => if j < i + 1 then some (F (5 + 3 * j)) else none))))) : va_E)
    refine congrArg (fun f => (.inl (k 1, 6, .inr (.inr (.inr (.inr f)))) : va_E)) (funext fun j => ?_)
    by_cases h2 : j = i
    · subst h2; rw [va_up_self, if_pos (by omega), hq]
    · rw [va_up_ne _ _ h2]
      by_cases h3 : j < i
      · rw [if_pos h3, if_pos (by omega)]
      · rw [if_neg h3, if_neg (by omega)]
  · rw [va_up_ne _ _ h1]
    unfold ft_cS
    by_cases h2 : j < 5
    · rw [if_pos h2, if_pos h2]
      match j, h2, h1 with
      | 0, _, h1 => rfl
      | 1, _, h1 => exact absurd rfl h1
      | 2, _, h1 => rfl
      | 3, _, h1 => rfl
      | 4, _, h1 => rfl
    · rw [if_neg h2, if_neg h2]

def ft_hH (k : Nat → ClassId) (a : Nat) (F : Nat → Nat) : Nat → va_E := fun j => match j with
  | 0 => .inr (4, [.ref (F 1), .int 0])
  | _ => .inl (k 2, 8, .inr (.inr (.inr (.inr (fun j => if j < a then some (F (2 + 23 * j)) else none)))))
def ft_cH (k : Nat → ClassId) (a : Nat) (F : Nat → Nat) : Nat → va_E := fun j => if j < 2 then ft_hH k a F j else ft_S (fun x => F (2 + 23 * ((j - 2) / 23) + x)) k ft_r0 ((j - 2) % 23)

theorem ft_hH_ad {D : va_G} {cl : List vw_C} {k : Nat → ClassId} {a x : Nat} {F F' : Nat → Nat} {H : Heap} (h : ∀ y, y < 2 + 23 * a → F' y = F y) (hx : x < 2) (hP : va_at D cl (F x, ft_hH k a F x) H) : va_at D cl (F' x, ft_hH k a F' x) H := by
  match x, hx with
  | 0, _ => exact ft_ate (h 0 (by omega)) (by show (.inr (4, [.ref (F' 1), .int 0]) : va_E) = .inr (4, [.ref (F 1), .int 0]); rw [h 1 (by omega)]) hP
  | 1, _ => exact ft_atq (h 1 (by omega)) (fun j _ => ite_congr rfl (fun hj => congrArg some (h (2 + 23 * j) (by omega)).symm) (fun _ => rfl)) hP
theorem ft_eH_ad {D : va_G} {cl : List vw_C} {k : Nat → ClassId} {x : Nat} {g g' : Nat → Nat} {H : Heap} (h : ∀ y, y < 23 → g' y = g y) (hx : x < 23) (hP : va_at D cl (g x, ft_S g k ft_r0 x) H) : va_at D cl (g' x, ft_S g' k ft_r0 x) H := ft_S_ad h hx hP
theorem ft_cH_go {D : va_G} {cl : List vw_C} {A : Nat → Prop} {k : Nat → ClassId} {i q : Nat} {F g : Nat → Nat} {bl : va_E} {H H1 : Heap} (hP : va_P D cl (ft_W (2 + 23 * i + 1) (va_up F (2 + 23 * i) q) (va_up (ft_cH k i F) (2 + 23 * i) bl)) H) (hD : va_D A (ft_W (2 + 23 * i + 1) (va_up F (2 + 23 * i) q) (va_up (ft_cH k i F) (2 + 23 * i) bl))) (hk : ∀ x : Nat, x < H.size → ¬ ft_An 1 (fun _ => q) H.size x → H1[x]? = H[x]?) (hB : va_P D cl (ft_W 23 g (fun x => ft_S g k ft_r0 x)) H1) (hDB : va_D (ft_An 1 (fun _ => q) H.size) (ft_W 23 g (fun x => ft_S g k ft_r0 x))) (hA : ∀ x, H.size ≤ x → A x) : va_P D cl (ft_W (2 + 23 * (i + 1)) (ft_bl (2 + 23 * i) F g) (ft_cH k i (ft_bl (2 + 23 * i) F g))) H1 ∧ va_D A (ft_W (2 + 23 * (i + 1)) (ft_bl (2 + 23 * i) F g) (ft_cH k i (ft_bl (2 + 23 * i) F g))) := by
  have hq : va_up F (2 + 23 * i) q (2 + 23 * i) = q := va_up_self _ _ _
  have h := ft_app2 (n := 2 + 23 * i) (m := 23) (g := g) (vb := fun x => ft_S g k ft_r0 x) hP hD (by rw [hq]; exact hk) hB (by rw [hq]; exact hDB) hA
  have hlo : ∀ y, y < 2 + 23 * i → ft_bl (2 + 23 * i) F g y = F y := fun y hy => ft_bl_lo hy
  refine ⟨ft_P_im h.1 (fun j => j) (fun j hj => ⟨by omega, fun h9 => ?_⟩), ft_D_sub h.2 (fun j => j) (fun j hj => by omega) (fun _ _ _ _ e => e) (fun j hj => ?_)⟩
  · have h9 : va_at D cl (ft_bl (2 + 23 * i) (va_up F (2 + 23 * i) q) g j, ft_bl (2 + 23 * i) (va_up (ft_cH k i F) (2 + 23 * i) bl) (fun x => ft_S g k ft_r0 x) j) H1 := h9
    by_cases h1 : j < 2 + 23 * i
    · rw [ft_bl_lo h1, ft_bl_lo h1, va_up_ne _ _ (by omega), va_up_ne _ _ (by omega)] at h9
      by_cases h2 : j < 2
      · unfold ft_cH at h9 ⊢
        rw [if_pos h2] at h9 ⊢
        exact ft_hH_ad hlo h2 h9
      · unfold ft_cH at h9 ⊢
        rw [if_neg h2] at h9 ⊢
        have e1 : F j = (fun x => F (2 + 23 * ((j - 2) / 23) + x)) ((j - 2) % 23) := congrArg F (by omega)
        have e2 : ft_bl (2 + 23 * i) F g j = (fun x => ft_bl (2 + 23 * i) F g (2 + 23 * ((j - 2) / 23) + x)) ((j - 2) % 23) := congrArg (ft_bl (2 + 23 * i) F g) (by omega)
        rw [e1] at h9
        rw [e2]
        exact ft_eH_ad (g := fun x => F (2 + 23 * ((j - 2) / 23) + x)) (g' := fun x => ft_bl (2 + 23 * i) F g (2 + 23 * ((j - 2) / 23) + x)) (fun y hy => hlo _ (by omega)) (by omega) h9
    · obtain ⟨x, hx, rfl⟩ : ∃ x, x < 23 ∧ j = 2 + 23 * i + x := ⟨j - (2 + 23 * i), by omega, by omega⟩
      rw [ft_bl_hi, ft_bl_hi] at h9
      unfold ft_cH
      rw [if_neg (by omega)]
      have e1 : (2 + 23 * i + x - 2) / 23 = i := by omega
      have e2 : (2 + 23 * i + x - 2) % 23 = x := by omega
      rw [e1, e2]
      exact ft_eH_ad (g := g) (g' := fun x => ft_bl (2 + 23 * i) F g (2 + 23 * i + x)) (fun y hy => ft_bl_hi) hx h9
  · by_cases h1 : j < 2 + 23 * i
    · rw [ft_bl_lo h1, ft_bl_lo h1, va_up_ne _ _ (by omega)]
    · obtain ⟨x, rfl⟩ : ∃ x, j = 2 + 23 * i + x := ⟨j - (2 + 23 * i), by omega⟩
      rw [ft_bl_hi, ft_bl_hi]
theorem ft_cH_st {k : Nat → ClassId} {i q : Nat} {F : Nat → Nat} (hi : i < 8) (hq : F (2 + 23 * i) = q) : (ft_W (2 + 23 * (i + 1)) F (ft_cH k i F)).set 1 (F 1, .inl (k 2, 8, .inr (.inr (.inr (.inr (va_up (fun j => if j < i then some (F (2 + 23 * j)) else none) (tn (nI i)) (some q))))))) = ft_W (2 + 23 * (i + 1)) F (ft_cH k (i + 1) F) := by
  rw [show tn (nI i) = i from nI_clamp (by omega)]
  refine ft_set' (fun j hj => ?_)
  by_cases h1 : j = 1
  · subst h1
    rw [va_up_self]
    show _ = (.inl (k 2, 8, .inr (.inr (.inr (.inr (fun j => if j < i + 1 then some (F (2 + 23 * j)) else none))))) : va_E)
    refine congrArg (fun f => (.inl (k 2, 8, .inr (.inr (.inr (.inr f)))) : va_E)) (funext fun j => ?_)
    by_cases h2 : j = i
    · subst h2; rw [va_up_self, if_pos (by omega), hq]
    · rw [va_up_ne _ _ h2]
      by_cases h3 : j < i
      · rw [if_pos h3, if_pos (by omega)]
      · rw [if_neg h3, if_neg (by omega)]
  · rw [va_up_ne _ _ h1]
    unfold ft_cH
    by_cases h2 : j < 2
    · rw [if_pos h2, if_pos h2]
      match j, h2, h1 with
      | 0, _, h1 => rfl
      | 1, _, h1 => exact absurd rfl h1
    · rw [if_neg h2, if_neg h2]

def ft_hC (k : Nat → ClassId) (Z : Nat → Nat → Nat) (a : Nat) (F : Nat → Nat) : Nat → va_E := fun j => match j with
  | 0 => .inr (5, [.ref (F 1), .ref (F 3), .int 0, .int 0])
  | 1 => .inr (1, [.ref (F 2), .int 0, .int 0, .int 0])
  | 2 => .inl (k 4, 16, .inl (fun _ => 0))
  | _ => .inl (k 3, 15, .inr (.inr (.inr (.inr (fun j => if j < a then some (F (4 + 2 * j)) else none)))))
def ft_cC (k : Nat → ClassId) (Z : Nat → Nat → Nat) (a : Nat) (F : Nat → Nat) : Nat → va_E := fun j => if j < 4 then ft_hC k Z a F j else ft_Q5 k (Z 0 0) ((fun x => F (4 + 2 * ((j - 4) / 2) + x)) 1) ((j - 4) % 2)

theorem ft_hC_ad {D : va_G} {cl : List vw_C} {k : Nat → ClassId} {Z : Nat → Nat → Nat} {a x : Nat} {F F' : Nat → Nat} {H : Heap} (h : ∀ y, y < 4 + 2 * a → F' y = F y) (hx : x < 4) (hP : va_at D cl (F x, ft_hC k Z a F x) H) : va_at D cl (F' x, ft_hC k Z a F' x) H := by
  match x, hx with
  | 0, _ => exact ft_ate (h 0 (by omega)) (by show (.inr (5, [.ref (F' 1), .ref (F' 3), .int 0, .int 0]) : va_E) = .inr (5, [.ref (F 1), .ref (F 3), .int 0, .int 0]); rw [h 1 (by omega), h 3 (by omega)]) hP
  | 1, _ => exact ft_ate (h 1 (by omega)) (by show (.inr (1, [.ref (F' 2), .int 0, .int 0, .int 0]) : va_E) = .inr (1, [.ref (F 2), .int 0, .int 0, .int 0]); rw [h 2 (by omega)]) hP
  | 2, _ => exact ft_ate (h 2 (by omega)) rfl hP
  | 3, _ => exact ft_atq (h 3 (by omega)) (fun j _ => ite_congr rfl (fun hj => congrArg some (h (4 + 2 * j) (by omega)).symm) (fun _ => rfl)) hP
theorem ft_eC_ad {D : va_G} {cl : List vw_C} {k : Nat → ClassId} {Z : Nat → Nat → Nat} {x : Nat} {g g' : Nat → Nat} {H : Heap} (h : ∀ y, y < 2 → g' y = g y) (hx : x < 2) (hP : va_at D cl (g x, ft_Q5 k (Z 0 0) (g 1) x) H) : va_at D cl (g' x, ft_Q5 k (Z 0 0) (g' 1) x) H := by
  match x, hx with
  | 0, _ => exact ft_ate (h 0 (by decide)) (by show (.inr (7, [.ref (Z 0 0), .ref (g' 1)]) : va_E) = .inr (7, [.ref (Z 0 0), .ref (g 1)]); rw [h 1 (by decide)]) hP
  | 1, _ => exact ft_ate (h 1 (by decide)) rfl hP
theorem ft_cC_go {D : va_G} {cl : List vw_C} {A : Nat → Prop} {k : Nat → ClassId} {Z : Nat → Nat → Nat} {i q : Nat} {F g : Nat → Nat} {bl : va_E} {H H1 : Heap} (hP : va_P D cl (ft_W (4 + 2 * i + 1) (va_up F (4 + 2 * i) q) (va_up (ft_cC k Z i F) (4 + 2 * i) bl)) H) (hD : va_D A (ft_W (4 + 2 * i + 1) (va_up F (4 + 2 * i) q) (va_up (ft_cC k Z i F) (4 + 2 * i) bl))) (hk : ∀ x : Nat, x < H.size → ¬ ft_An 1 (fun _ => q) H.size x → H1[x]? = H[x]?) (hB : va_P D cl (ft_W 2 g (fun x => ft_Q5 k (Z 0 0) (g 1) x)) H1) (hDB : va_D (ft_An 1 (fun _ => q) H.size) (ft_W 2 g (fun x => ft_Q5 k (Z 0 0) (g 1) x))) (hA : ∀ x, H.size ≤ x → A x) : va_P D cl (ft_W (4 + 2 * (i + 1)) (ft_bl (4 + 2 * i) F g) (ft_cC k Z i (ft_bl (4 + 2 * i) F g))) H1 ∧ va_D A (ft_W (4 + 2 * (i + 1)) (ft_bl (4 + 2 * i) F g) (ft_cC k Z i (ft_bl (4 + 2 * i) F g))) := by
  have hq : va_up F (4 + 2 * i) q (4 + 2 * i) = q := va_up_self _ _ _
  have h := ft_app2 (n := 4 + 2 * i) (m := 2) (g := g) (vb := fun x => ft_Q5 k (Z 0 0) (g 1) x) hP hD (by rw [hq]; exact hk) hB (by rw [hq]; exact hDB) hA
  have hlo : ∀ y, y < 4 + 2 * i → ft_bl (4 + 2 * i) F g y = F y := fun y hy => ft_bl_lo hy
  refine ⟨ft_P_im h.1 (fun j => j) (fun j hj => ⟨by omega, fun h9 => ?_⟩), ft_D_sub h.2 (fun j => j) (fun j hj => by omega) (fun _ _ _ _ e => e) (fun j hj => ?_)⟩
  · have h9 : va_at D cl (ft_bl (4 + 2 * i) (va_up F (4 + 2 * i) q) g j, ft_bl (4 + 2 * i) (va_up (ft_cC k Z i F) (4 + 2 * i) bl) (fun x => ft_Q5 k (Z 0 0) (g 1) x) j) H1 := h9
    by_cases h1 : j < 4 + 2 * i
    · rw [ft_bl_lo h1, ft_bl_lo h1, va_up_ne _ _ (by omega), va_up_ne _ _ (by omega)] at h9
      by_cases h2 : j < 4
      · unfold ft_cC at h9 ⊢
        rw [if_pos h2] at h9 ⊢
        exact ft_hC_ad hlo h2 h9
      · unfold ft_cC at h9 ⊢
        rw [if_neg h2] at h9 ⊢
        have e1 : F j = (fun x => F (4 + 2 * ((j - 4) / 2) + x)) ((j - 4) % 2) := congrArg F (by omega)
        have e2 : ft_bl (4 + 2 * i) F g j = (fun x => ft_bl (4 + 2 * i) F g (4 + 2 * ((j - 4) / 2) + x)) ((j - 4) % 2) := congrArg (ft_bl (4 + 2 * i) F g) (by omega)
        rw [e1] at h9
        rw [e2]
        exact ft_eC_ad (g := fun x => F (4 + 2 * ((j - 4) / 2) + x)) (g' := fun x => ft_bl (4 + 2 * i) F g (4 + 2 * ((j - 4) / 2) + x)) (fun y hy => hlo _ (by omega)) (by omega) h9
    · obtain ⟨x, hx, rfl⟩ : ∃ x, x < 2 ∧ j = 4 + 2 * i + x := ⟨j - (4 + 2 * i), by omega, by omega⟩
      rw [ft_bl_hi, ft_bl_hi] at h9
      unfold ft_cC
      rw [if_neg (by omega)]
      have e1 : (4 + 2 * i + x - 4) / 2 = i := by omega
      have e2 : (4 + 2 * i + x - 4) % 2 = x := by omega
      rw [e1, e2]
      exact ft_eC_ad (g := g) (g' := fun x => ft_bl (4 + 2 * i) F g (4 + 2 * i + x)) (fun y hy => ft_bl_hi) hx h9
  · by_cases h1 : j < 4 + 2 * i
    · rw [ft_bl_lo h1, ft_bl_lo h1, va_up_ne _ _ (by omega)]
    · obtain ⟨x, rfl⟩ : ∃ x, j = 4 + 2 * i + x := ⟨j - (4 + 2 * i), by omega⟩
      rw [ft_bl_hi, ft_bl_hi]
theorem ft_cC_st {k : Nat → ClassId} {Z : Nat → Nat → Nat} {i q : Nat} {F : Nat → Nat} (hi : i < 15) (hq : F (4 + 2 * i) = q) : (ft_W (4 + 2 * (i + 1)) F (ft_cC k Z i F)).set 3 (F 3, .inl (k 3, 15, .inr (.inr (.inr (.inr (va_up (fun j => if j < i then some (F (4 + 2 * j)) else none) (tn (nI i)) (some q))))))) = ft_W (4 + 2 * (i + 1)) F (ft_cC k Z (i + 1) F) := by
  rw [show tn (nI i) = i from nI_clamp (by omega)]
  refine ft_set' (fun j hj => ?_)
  by_cases h1 : j = 3
  · subst h1
    rw [va_up_self]
    show _ = (.inl (k 3, 15, .inr (.inr (.inr (.inr (fun j => if j < i + 1 then some (F (4 + 2 * j)) else none))))) : va_E)
    refine congrArg (fun f => (.inl (k 3, 15, .inr (.inr (.inr (.inr f)))) : va_E)) (funext fun j => ?_)
    by_cases h2 : j = i
    · subst h2; rw [va_up_self, if_pos (by omega), hq]
    · rw [va_up_ne _ _ h2]
      by_cases h3 : j < i
      · rw [if_pos h3, if_pos (by omega)]
      · rw [if_neg h3, if_neg (by omega)]
  · rw [va_up_ne _ _ h1]
    unfold ft_cC
    by_cases h2 : j < 4
    · rw [if_pos h2, if_pos h2]
      match j, h2, h1 with
      | 0, _, h1 => rfl
      | 1, _, h1 => rfl
      | 2, _, h1 => rfl
      | 3, _, h1 => exact absurd rfl h1
    · rw [if_neg h2, if_neg h2]
