/-! the law's view: an object at a, its cells anywhere from sz on -/
abbrev ft_SZ : Type := Nat × (Nat → Prop)
abbrev ft_AL (sz : ft_SZ) : Nat → Prop := fun x => sz.1 ≤ x ∧ ¬ sz.2 x
def ft_sl (sz : ft_SZ) (n : Nat) : Prop := sz.1 ≤ n ∧ ∀ x, sz.2 x → x < n
theorem ft_sl.le {sz : ft_SZ} {n m : Nat} (h : ft_sl sz n) (hm : n ≤ m) : ft_sl sz m := ⟨Nat.le_trans h.1 hm, fun x hx => Nat.lt_of_lt_of_le (h.2 x hx) hm⟩
theorem ft_sl.al {sz : ft_SZ} {n q : Nat} (h : ft_sl sz n) (hq : n ≤ q) : ft_AL sz q := ⟨Nat.le_trans h.1 hq, fun hx => absurd (h.2 q hx) (Nat.not_lt.mpr hq)⟩
def ft_LW (D : va_G) (k : Nat → ClassId) (Z : Nat → Nat → Nat) (sz : ft_SZ) (a : Nat) (σ : ft_Sg) (H : Heap) : Prop := ∃ ad : Nat → Nat, ad 253 = a ∧ va_P D vwCl (ft_WR ad k Z σ.1 σ.2.1 σ.2.2.1 σ.2.2.2) H ∧ va_D (ft_AL sz) (ft_WR ad k Z σ.1 σ.2.1 σ.2.2.1 σ.2.2.2)
theorem ft_LW.kept {D : va_G} {k : Nat → ClassId} {Z : Nat → Nat → Nat} {sz : ft_SZ} {a : Nat} {σ : ft_Sg} {H H1 : Heap} (h : ft_LW D k Z sz a σ H) (hk : ∀ q : Nat, q < H.size → H1[q]? = H[q]?) : ft_LW D k Z sz a σ H1 := by
  obtain ⟨ad, h0, hP, hD⟩ := h
  exact ⟨ad, h0, hP.kept (fun k q hq => hk q.1 (hP k q hq).lt), hD⟩
theorem ft_LW.recv {D : va_G} {k : Nat → ClassId} {Z : Nat → Nat → Nat} {sz : ft_SZ} {a : Nat} {σ : ft_Sg} {H : Heap} {s : State} (h : ft_LW D k Z sz a σ H) (hK : ft_K D k s) : ∃ cell : Cell, H[a]? = some cell ∧ cell.vm.isStatics = false ∧ s.vm.findClass RX7 = some cell.cls := by
  obtain ⟨ad, h0, hP, hD⟩ := h
  subst h0
  exact va_recv hK.1 hP (ci := 9) (q0 := 253) rfl (ft_get' (by decide) rfl)
theorem ft_LW.lo {D : va_G} {k : Nat → ClassId} {Z : Nat → Nat → Nat} {sz : ft_SZ} {a : Nat} {σ : ft_Sg} {H : Heap} (h : ft_LW D k Z sz a σ H) : ft_AL sz a := by
  obtain ⟨ad, h0, hP, hD⟩ := h
  subst h0
  exact hD.2 253 _ (ft_get (by decide))
/-- a start of a method over it -/
def ft_PL (D : va_G) (k : Nat → ClassId) (Z : Nat → Nat → Nat) (sz : ft_SZ) (a : Nat) (σ : ft_Sg) (av : List Value) : Array Value → State → Prop := va_Pc av (fun U => ft_LW D k Z sz a σ U.heap ∧ ft_E D k Z (ft_AL sz) U ∧ ft_sl sz U.heap.size)
theorem ft_PL.blind {D : va_G} {k : Nat → ClassId} {Z : Nat → Nat → Nat} {sz : ft_SZ} {a : Nat} {σ : ft_Sg} {av : List Value} : FrameBlind (ft_PL D k Z sz a σ av) := fun _ U _ _ q => ⟨q.1, q.2.1, q.2.2.1.same (u := U) rfl rfl, q.2.2.2⟩
theorem ft_preL {D : va_G} {k : Nat → ClassId} {Z : Nat → Nat → Nat} {sz : ft_SZ} {a : Nat} {σ : ft_Sg} {s : State} {H : Heap} {locs : List Loc} {As : List Value} (hE : ft_E D k Z (ft_AL sz) s) (hz : ft_sl sz s.heap.size) (hS : va_S (ft_AL sz) s.heap H locs) (hP : ft_LW D k Z sz a σ H) : PreV s H RX7 a (ft_PL D k Z sz a σ (.ref a :: As)) As :=
  ⟨ft_PL.blind, hP.recv hE.1, fun U hU hW => ⟨rfl, by rw [hU]; exact hP, hE.go hS (fun _ h => h) hU hW, by rw [hU]; exact hz.le hS.1⟩⟩
theorem ft_preLs {D : va_G} {k : Nat → ClassId} {Z : Nat → Nat → Nat} {sz : ft_SZ} {a : Nat} {σ : ft_Sg} {s : State} {H : Heap} {locs : List Loc} {As : List Value} (hE : ft_E D k Z (ft_AL sz) s) (hz : ft_sl sz s.heap.size) (hS : va_S (ft_AL sz) s.heap H locs) (hP : ft_LW D k Z sz a σ H) : PreS s H (ft_PL D k Z sz a σ As) As :=
  ⟨ft_PL.blind, fun U hU hW => ⟨rfl, by rw [hU]; exact hP, hE.go hS (fun _ h => h) hU hW, by rw [hU]; exact hz.le hS.1⟩⟩
theorem ft_E.narrow {D : va_G} {k : Nat → ClassId} {Z : Nat → Nat → Nat} {A B : Nat → Prop} {U : State} (hE : ft_E D k Z A U) (h : ∀ q, B q → A q) : ft_E D k Z B U := ⟨hE.1, hE.2.1, hE.2.2.narrow h⟩
theorem ft_F_w {A B : Nat → Prop} {s t : State} (h : va_F A s t) (hAB : ∀ q, A q → B q) : va_F B s t := ⟨h.1, fun q h1 h2 => h.2 q h1 (fun h3 => h2 (hAB q h3))⟩
theorem vx_lift {ι : Type} {l : Launch} {y : MethodName} {ws : List Cond} {rm : Room} {mc ms : Nat} {PL : Array Value → State → Prop} {P : ι → Array Value → State → Prop} {QL : Array Value → State → Outcome → State → Prop} {Q : ι → Array Value → State → Outcome → State → Prop} {XL : String → State → State → Prop} {X : ι → String → State → State → Prop} {fL : Addr → Prop} {f : ι → Addr → Prop} (hM : ∀ i, vx_Met l y ws rm (P i) (Q i) (X i) mc ms (f i)) (hP : ∀ a s, PL a s → ∃ i, P i a s ∧ (∀ o t, Q i a s o t → QL a s o t) ∧ (∀ E t, X i E s t → XL E s t) ∧ ∀ x, f i x → fL x) : vx_Met l y ws rm PL QL XL mc ms fL := by
  intro p e h1 h2 h3 s m args below hf ha hp hk
  obtain ⟨i, k1, k2, k3, k4⟩ := hP args s hp
  obtain ⟨n, o, g1, g2, g3, g4⟩ := hM i p e h1 h2 h3 s m args below hf ha k1 hk
  refine ⟨n, o, g1, g2, g3, ?_⟩
  rcases g4 with ⟨hq, L, hF, hL⟩ | ⟨q, ho, E, ce, L, t1, t2, t3, t4, t5, t6, t7⟩
  · exact Or.inl ⟨k2 _ _ hq, L, hF, fun q hq => k4 _ (hL q hq)⟩
  · exact Or.inr ⟨q, ho, E, ce, L, k3 _ _ t1, t2, t3, t4, t5, t6, fun z hz => k4 _ (t7 z hz)⟩
theorem ft_Mlift {ι : Type} {l : Launch} {y : MethodName} {ws : List Cond} {rm : Room} {mc ms : Nat} {PL : Array Value → State → Prop} {P : ι → Array Value → State → Prop} {QL : Array Value → State → Outcome → State → Prop} {Q : ι → Array Value → State → Outcome → State → Prop} {fL : Addr → Prop} {f : ι → Addr → Prop} (hM : ∀ i, Met l y ws rm (P i) (Q i) mc ms (f i)) (hP : ∀ a s, PL a s → ∃ i, P i a s ∧ (∀ o t, Q i a s o t → QL a s o t) ∧ ∀ x, f i x → fL x) : Met l y ws rm PL QL mc ms fL := by
  intro p e h1 h2 h3 s m args below hf ha hp hk
  obtain ⟨i, k1, k2, k4⟩ := hP args s hp
  obtain ⟨n, o, g1, g2, g3, g4, L, hF, hL⟩ := hM i p e h1 h2 h3 s m args below hf ha k1 hk
  exact ⟨n, o, g1, g2, g3, k2 _ _ g4, L, hF, fun q hq => k4 _ (hL q hq)⟩
abbrev ft_Ad (a : Nat) : Type := { ad : Nat → Nat // ad 253 = a }
/-- answers that leave the state as it is; answers with a new state -/
def ft_QLi (D : va_G) (k : Nat → ClassId) (Z : Nat → Nat → Nat) (sz : ft_SZ) (a : Nat) (σ : ft_Sg) (F : Except String Int32) : Array Value → State → Outcome → State → Prop := va_Qi (fun (z : Int32) (_ : Unit) => F = .ok z) (fun _ t => ft_LW D k Z sz a σ t.heap) (ft_AL sz)
def ft_XLi (D : va_G) (k : Nat → ClassId) (Z : Nat → Nat → Nat) (sz : ft_SZ) (a : Nat) (σ : ft_Sg) {α : Type} (F : Except String α) : String → State → State → Prop := vx_X (fun (_ : Unit) => True) (fun E _ t => F = .error E ∧ ft_LW D k Z sz a σ t.heap) (ft_AL sz)
def ft_QLs (D : va_G) (k : Nat → ClassId) (Z : Nat → Nat → Nat) (sz : ft_SZ) (a : Nat) (F : Except String Int32 × ft_Sg) : Array Value → State → Outcome → State → Prop := va_Qi (fun (z : Int32) (u : ft_Sg) => (.ok z, u) = F) (fun u t => ft_LW D k Z sz a u t.heap) (ft_AL sz)
def ft_XLs (D : va_G) (k : Nat → ClassId) (Z : Nat → Nat → Nat) (sz : ft_SZ) (a : Nat) (F : Except String Int32 × ft_Sg) : String → State → State → Prop := vx_X (fun (_ : ft_Sg) => True) (fun E u t => (.error E, u) = F ∧ ft_LW D k Z sz a u t.heap) (ft_AL sz)
theorem ft_lift_x {l : Launch} {D : va_G} {k : Nat → ClassId} {Z : Nat → Nat → Nat} {sz : ft_SZ} {a : Nat} {σ : ft_Sg} {y : MethodName} {ws : List Cond} {rm : Room} {mc ms : Nat} {av : List Value} {F : Except String Int32} (h : ∀ ad : Nat → Nat, vx_Met l y ws rm (ft_Pe D k Z (ft_AL sz) (.ref (ad 253) :: av) (ft_WR ad k Z σ.1 σ.2.1 σ.2.2.1 σ.2.2.2)) (ft_Qx F) (ft_Xx F) mc ms (fun _ => False)) : vx_Met l y ws rm (ft_PL D k Z sz a σ (.ref a :: av)) (ft_QLi D k Z sz a σ F) (ft_XLi D k Z sz a σ F) mc ms (ft_AL sz) := by
  refine vx_lift (ι := Nat → Nat) (P := fun ad => ft_Pe D k Z (ft_AL sz) (.ref (ad 253) :: av) (ft_WR ad k Z σ.1 σ.2.1 σ.2.2.1 σ.2.2.2)) (f := fun _ _ => False) h (fun args s hp => ?_)
  obtain ⟨hargs, hL, hE, hz⟩ := hp
  have hL0 := hL
  obtain ⟨ad, had, hP, hD⟩ := hL
  refine ⟨ad, ⟨by rw [had]; exact hargs, hP, hE⟩, fun o t hq => ?_, fun E t hx => ?_, fun _ h => h.elim⟩
  · obtain ⟨⟨z, u, e1, e2, -⟩, e4⟩ := hq
    exact ⟨⟨z, (), e1, e2, hL0.kept (fun q hq => e4.2 q hq (fun h => h))⟩, ft_F_w e4 (fun _ h => h.elim)⟩
  · obtain ⟨u, -, e2, e4⟩ := hx
    exact ⟨(), trivial, ⟨e2, hL0.kept (fun q hq => e4.2 q hq (fun h => h))⟩, ft_F_w e4 (fun _ h => h.elim)⟩
theorem ft_lift_i {l : Launch} {D : va_G} {k : Nat → ClassId} {Z : Nat → Nat → Nat} {sz : ft_SZ} {a : Nat} {σ : ft_Sg} {y : MethodName} {ws : List Cond} {rm : Room} {av : List Value} {F : Int32} (h : ∀ ad : Nat → Nat, Met l y ws rm (ft_Pc D k (.ref (ad 253) :: av) (ft_WR ad k Z σ.1 σ.2.1 σ.2.2.1 σ.2.2.2)) (vp_Si (fun z : Int32 => z = F)) 0 0 (fun _ => False)) : Met l y ws rm (ft_PL D k Z sz a σ (.ref a :: av)) (vp_Si (fun z : Int32 => z = F)) 0 0 (fun _ => False) := by
  refine ft_Mlift (ι := Nat → Nat) (P := fun ad => ft_Pc D k (.ref (ad 253) :: av) (ft_WR ad k Z σ.1 σ.2.1 σ.2.2.1 σ.2.2.2)) (f := fun _ _ => False) h (fun args s hp => ?_)
  obtain ⟨hargs, ⟨ad, had, hP, hD⟩, hE, hz⟩ := hp
  exact ⟨ad, ⟨by rw [had]; exact hargs, hP, hE.1⟩, fun o t hq => hq, fun _ h => h⟩
theorem ft_lift_y {l : Launch} {D : va_G} {k : Nat → ClassId} {Z : Nat → Nat → Nat} {sz : ft_SZ} {a : Nat} {σ : ft_Sg} {y : MethodName} {ws : List Cond} {rm : Room} {mc ms : Nat} {av : List Value} {F : Except String Int32 × ft_St} (h : ∀ ad : Nat → Nat, vx_Met l y ws rm (ft_Pf D k Z (ft_A 292 ad) (.ref (ad 253) :: av) (ft_WR ad k Z σ.1 σ.2.1 σ.2.2.1 σ.2.2.2)) (va_Qi (fun (z : Int32) (u : ft_St) => (.ok z, u) = F) (fun (u : ft_St) (t : State) => va_P D vwCl (ft_WR ad k Z u.1 u.2.1 u.2.2 σ.2.2.2) t.heap) (ft_A 292 ad)) (vx_X (fun (_ : ft_St) => True) (fun (E : String) (u : ft_St) (t : State) => (.error E, u) = F ∧ va_P D vwCl (ft_WR ad k Z u.1 u.2.1 u.2.2 σ.2.2.2) t.heap) (ft_A 292 ad)) mc ms (ft_A 292 ad)) : vx_Met l y ws rm (ft_PL D k Z sz a σ (.ref a :: av)) (ft_QLs D k Z sz a (F.1, (F.2.1, F.2.2.1, F.2.2.2, σ.2.2.2))) (ft_XLs D k Z sz a (F.1, (F.2.1, F.2.2.1, F.2.2.2, σ.2.2.2))) mc ms (ft_AL sz) := by
  refine vx_lift (ι := Nat → Nat) (P := fun ad => ft_Pf D k Z (ft_A 292 ad) (.ref (ad 253) :: av) (ft_WR ad k Z σ.1 σ.2.1 σ.2.2.1 σ.2.2.2)) (f := fun ad => ft_A 292 ad) h (fun args s hp => ?_)
  obtain ⟨hargs, ⟨ad, had, hP, hD⟩, hE, hz⟩ := hp
  have hsub : ∀ x, ft_A 292 ad x → ft_AL sz x := fun x ⟨j, hj, e⟩ => by rw [e]; exact hD.2 j _ (ft_get hj)
  refine ⟨ad, ⟨by rw [had]; exact hargs, hP, hE.narrow hsub, hD.weaken (fun _ _ _ _ => trivial)⟩, fun o t hq => ?_, fun E t hx => ?_, hsub⟩
  · obtain ⟨⟨z, u, e1, e2, e3⟩, e4⟩ := hq
    exact ⟨⟨z, (u.1, u.2.1, u.2.2, σ.2.2.2), e1, by rw [← e2], ad, had, e3, ft_D_va hD _⟩, ft_F_w e4 hsub⟩
  · obtain ⟨u, -, ⟨e2, e3⟩, e4⟩ := hx
    exact ⟨(u.1, u.2.1, u.2.2, σ.2.2.2), trivial, ⟨by rw [← e2], ad, had, e3, ft_D_va hD _⟩, ft_F_w e4 hsub⟩
theorem ft_lift_s {l : Launch} {D : va_G} {k : Nat → ClassId} {Z : Nat → Nat → Nat} {sz : ft_SZ} {a : Nat} {σ : ft_Sg} {y : MethodName} {ws : List Cond} {rm : Room} {mc ms : Nat} {av : List Value} {F : Except String Int32 × ft_Sg} (h : ∀ ad : Nat → Nat, vx_Met l y ws rm (ft_Pf D k Z (ft_A 292 ad) (.ref (ad 253) :: av) (ft_WR ad k Z σ.1 σ.2.1 σ.2.2.1 σ.2.2.2)) (va_Qi (fun (z : Int32) (u : ft_Sg) => (.ok z, u) = F) (fun (u : ft_Sg) (t : State) => va_P D vwCl (ft_WR ad k Z u.1 u.2.1 u.2.2.1 u.2.2.2) t.heap) (ft_A 292 ad)) (vx_X (fun (_ : ft_Sg) => True) (fun (E : String) (u : ft_Sg) (t : State) => (.error E, u) = F ∧ va_P D vwCl (ft_WR ad k Z u.1 u.2.1 u.2.2.1 u.2.2.2) t.heap) (ft_A 292 ad)) mc ms (ft_A 292 ad)) : vx_Met l y ws rm (ft_PL D k Z sz a σ (.ref a :: av)) (ft_QLs D k Z sz a F) (ft_XLs D k Z sz a F) mc ms (ft_AL sz) := by
  refine vx_lift (ι := Nat → Nat) (P := fun ad => ft_Pf D k Z (ft_A 292 ad) (.ref (ad 253) :: av) (ft_WR ad k Z σ.1 σ.2.1 σ.2.2.1 σ.2.2.2)) (f := fun ad => ft_A 292 ad) h (fun args s hp => ?_)
  obtain ⟨hargs, ⟨ad, had, hP, hD⟩, hE, hz⟩ := hp
  have hsub : ∀ x, ft_A 292 ad x → ft_AL sz x := fun x ⟨j, hj, e⟩ => by rw [e]; exact hD.2 j _ (ft_get hj)
  refine ⟨ad, ⟨by rw [had]; exact hargs, hP, hE.narrow hsub, hD.weaken (fun _ _ _ _ => trivial)⟩, fun o t hq => ?_, fun E t hx => ?_, hsub⟩
  · obtain ⟨⟨z, u, e1, e2, e3⟩, e4⟩ := hq
    exact ⟨⟨z, u, e1, e2, ad, had, e3, ft_D_va hD _⟩, ft_F_w e4 hsub⟩
  · obtain ⟨u, -, ⟨e2, e3⟩, e4⟩ := hx
    exact ⟨u, trivial, ⟨e2, ad, had, e3, ft_D_va hD _⟩, ft_F_w e4 hsub⟩

theorem ft_upD_259 {n v : Nat} {sz : ft_SZ} {ad : Nat → Nat} {va vb : Nat → va_E} (hD : va_D (ft_AL sz) (ft_W 292 ad va)) (hlt : ∀ j, j < 292 → ad j < n) (hv : v = ad 259 ∨ n ≤ v) (hz : ft_sl sz n) : va_D (ft_AL sz) (ft_W 292 (va_up ad 259 v) vb) := by
  have hinj : ∀ i j, i < 292 → j < 292 → ad i = ad j → i = j := fun i j hi hj e => hD.1 i j _ _ (ft_get hi) (ft_get hj) e
  refine ⟨fun i j x y hx hy e => ?_, fun j x hx => ?_⟩
  · obtain ⟨hi, rfl⟩ := ft_of hx
    obtain ⟨hj, rfl⟩ := ft_of hy
    have e : va_up ad 259 v i = va_up ad 259 v j := e
    by_cases h1 : i = 259
    · by_cases h2 : j = 259
      · rw [h1, h2]
      · subst h1
        rw [va_up_self, va_up_ne _ _ h2] at e
        rcases hv with hv | hv
        · exact hinj _ _ hi hj (hv.symm.trans e)
        · have := hlt j hj; omega
    · by_cases h2 : j = 259
      · subst h2
        rw [va_up_self, va_up_ne _ _ h1] at e
        rcases hv with hv | hv
        · exact hinj _ _ hi hj (e.trans hv)
        · have := hlt i hi; omega
      · rw [va_up_ne _ _ h1, va_up_ne _ _ h2] at e
        exact hinj _ _ hi hj e
  · obtain ⟨hj, rfl⟩ := ft_of hx
    show ft_AL sz (va_up ad 259 v j)
    by_cases h1 : j = 259
    · subst h1
      rw [va_up_self]
      rcases hv with hv | hv
      · rw [hv]; exact hD.2 259 _ (ft_get (by decide))
      · exact hz.al hv
    · rw [va_up_ne _ _ h1]; exact hD.2 j _ (ft_get hj)
theorem ft_lift_g259 {l : Launch} {D : va_G} {k : Nat → ClassId} {Z : Nat → Nat → Nat} {sz : ft_SZ} {a : Nat} {σ : ft_Sg} {y : MethodName} {ws : List Cond} {rm : Room} {mc ms : Nat} {av : List Value} {F : Except String Int32 × ((Nat → Int32) × ft_G)} (hpm : ∀ i, i < 8 → σ.2.1 i < 8) (h : ∀ (ad : Nat → Nat) (z9 : Nat), vx_Met l y ws rm (ft_Ph D k Z (ft_An 292 ad z9) (.ref (ad 253) :: av) (ft_WR ad k Z σ.1 σ.2.1 σ.2.2.1 σ.2.2.2) z9) (va_Qi (fun (z : Int32) (u : Nat × ((Nat → Int32) × ft_G)) => (.ok z, u.2) = F) (fun (u : Nat × ((Nat → Int32) × ft_G)) (t : State) => (u.1 = ad 259 ∨ z9 ≤ u.1) ∧ va_P D vwCl (ft_WR (va_up ad 259 u.1) k Z σ.1 σ.2.1 u.2.1 u.2.2) t.heap) (ft_An 292 ad z9)) (vx_X (fun (_ : Nat × ((Nat → Int32) × ft_G)) => True) (fun (E : String) (u : Nat × ((Nat → Int32) × ft_G)) (t : State) => (.error E, u.2) = F ∧ (u.1 = ad 259 ∨ z9 ≤ u.1) ∧ va_P D vwCl (ft_WR (va_up ad 259 u.1) k Z σ.1 σ.2.1 u.2.1 u.2.2) t.heap) (ft_An 292 ad z9)) mc ms (ft_An 292 ad z9)) : vx_Met l y ws rm (ft_PL D k Z sz a σ (.ref a :: av)) (ft_QLs D k Z sz a (F.1, (σ.1, σ.2.1, F.2.1, F.2.2))) (ft_XLs D k Z sz a (F.1, (σ.1, σ.2.1, F.2.1, F.2.2))) mc ms (ft_AL sz) := by
  refine vx_lift (ι := (Nat → Nat) × Nat) (P := fun i => ft_Ph D k Z (ft_An 292 i.1 i.2) (.ref (i.1 253) :: av) (ft_WR i.1 k Z σ.1 σ.2.1 σ.2.2.1 σ.2.2.2) i.2) (f := fun i => ft_An 292 i.1 i.2) (fun i => h i.1 i.2) (fun args s hp => ?_)
  obtain ⟨hargs, ⟨ad, had, hP, hD⟩, hE, hz⟩ := hp
  have hsub : ∀ x, ft_An 292 ad s.heap.size x → ft_AL sz x := fun x hx => by
    rcases hx with ⟨j, hj, e⟩ | h9
    · rw [e]; exact hD.2 j _ (ft_get hj)
    · exact hz.al h9
  have hlt : ∀ j, j < 292 → ad j < s.heap.size := fun j hj => (hP j _ (ft_get hj)).lt
  refine ⟨(ad, s.heap.size), ⟨by show args = (Value.ref (ad 253) :: av).toArray; rw [had]; exact hargs, hP, hE.narrow hsub, hD.weaken (fun _ _ _ _ => trivial), Nat.le_refl _⟩, fun o t hq => ?_, fun E t hx => ?_, hsub⟩
  · obtain ⟨⟨z, u, e1, e2, e3, e5⟩, e4⟩ := hq
    exact ⟨⟨z, (σ.1, σ.2.1, u.2.1, u.2.2), e1, by rw [← e2], va_up ad 259 u.1, (va_up_ne _ _ (by decide)).trans had, e5, ft_upD_259 hD hlt e3 hz⟩, ft_F_w e4 hsub⟩
  · obtain ⟨u, -, ⟨e2, e3, e5⟩, e4⟩ := hx
    exact ⟨(σ.1, σ.2.1, u.2.1, u.2.2), trivial, ⟨by rw [← e2], va_up ad 259 u.1, (va_up_ne _ _ (by decide)).trans had, e5, ft_upD_259 hD hlt e3 hz⟩, ft_F_w e4 hsub⟩

theorem ft_upD_261 {n v : Nat} {sz : ft_SZ} {ad : Nat → Nat} {va vb : Nat → va_E} (hD : va_D (ft_AL sz) (ft_W 292 ad va)) (hlt : ∀ j, j < 292 → ad j < n) (hv : v = ad 261 ∨ n ≤ v) (hz : ft_sl sz n) : va_D (ft_AL sz) (ft_W 292 (va_up ad 261 v) vb) := by
  have hinj : ∀ i j, i < 292 → j < 292 → ad i = ad j → i = j := fun i j hi hj e => hD.1 i j _ _ (ft_get hi) (ft_get hj) e
  refine ⟨fun i j x y hx hy e => ?_, fun j x hx => ?_⟩
  · obtain ⟨hi, rfl⟩ := ft_of hx
    obtain ⟨hj, rfl⟩ := ft_of hy
    have e : va_up ad 261 v i = va_up ad 261 v j := e
    by_cases h1 : i = 261
    · by_cases h2 : j = 261
      · rw [h1, h2]
      · subst h1
        rw [va_up_self, va_up_ne _ _ h2] at e
        rcases hv with hv | hv
        · exact hinj _ _ hi hj (hv.symm.trans e)
        · have := hlt j hj; omega
    · by_cases h2 : j = 261
      · subst h2
        rw [va_up_self, va_up_ne _ _ h1] at e
        rcases hv with hv | hv
        · exact hinj _ _ hi hj (e.trans hv)
        · have := hlt i hi; omega
      · rw [va_up_ne _ _ h1, va_up_ne _ _ h2] at e
        exact hinj _ _ hi hj e
  · obtain ⟨hj, rfl⟩ := ft_of hx
    show ft_AL sz (va_up ad 261 v j)
    by_cases h1 : j = 261
    · subst h1
      rw [va_up_self]
      rcases hv with hv | hv
      · rw [hv]; exact hD.2 261 _ (ft_get (by decide))
      · exact hz.al hv
    · rw [va_up_ne _ _ h1]; exact hD.2 j _ (ft_get hj)
theorem ft_lift_g261 {l : Launch} {D : va_G} {k : Nat → ClassId} {Z : Nat → Nat → Nat} {sz : ft_SZ} {a : Nat} {σ : ft_Sg} {y : MethodName} {ws : List Cond} {rm : Room} {mc ms : Nat} {av : List Value} {F : Except String Int32 × ((Nat → Int32) × ft_G)} (hpm : ∀ i, i < 8 → σ.2.1 i < 8) (h : ∀ (ad : Nat → Nat) (z9 : Nat), vx_Met l y ws rm (ft_Ph D k Z (ft_An 292 ad z9) (.ref (ad 253) :: av) (ft_WR ad k Z σ.1 σ.2.1 σ.2.2.1 σ.2.2.2) z9) (va_Qi (fun (z : Int32) (u : Nat × ((Nat → Int32) × ft_G)) => (.ok z, u.2) = F) (fun (u : Nat × ((Nat → Int32) × ft_G)) (t : State) => (u.1 = ad 261 ∨ z9 ≤ u.1) ∧ va_P D vwCl (ft_WR (va_up ad 261 u.1) k Z σ.1 σ.2.1 u.2.1 u.2.2) t.heap) (ft_An 292 ad z9)) (vx_X (fun (_ : Nat × ((Nat → Int32) × ft_G)) => True) (fun (E : String) (u : Nat × ((Nat → Int32) × ft_G)) (t : State) => (.error E, u.2) = F ∧ (u.1 = ad 261 ∨ z9 ≤ u.1) ∧ va_P D vwCl (ft_WR (va_up ad 261 u.1) k Z σ.1 σ.2.1 u.2.1 u.2.2) t.heap) (ft_An 292 ad z9)) mc ms (ft_An 292 ad z9)) : vx_Met l y ws rm (ft_PL D k Z sz a σ (.ref a :: av)) (ft_QLs D k Z sz a (F.1, (σ.1, σ.2.1, F.2.1, F.2.2))) (ft_XLs D k Z sz a (F.1, (σ.1, σ.2.1, F.2.1, F.2.2))) mc ms (ft_AL sz) := by
  refine vx_lift (ι := (Nat → Nat) × Nat) (P := fun i => ft_Ph D k Z (ft_An 292 i.1 i.2) (.ref (i.1 253) :: av) (ft_WR i.1 k Z σ.1 σ.2.1 σ.2.2.1 σ.2.2.2) i.2) (f := fun i => ft_An 292 i.1 i.2) (fun i => h i.1 i.2) (fun args s hp => ?_)
  obtain ⟨hargs, ⟨ad, had, hP, hD⟩, hE, hz⟩ := hp
  have hsub : ∀ x, ft_An 292 ad s.heap.size x → ft_AL sz x := fun x hx => by
    rcases hx with ⟨j, hj, e⟩ | h9
    · rw [e]; exact hD.2 j _ (ft_get hj)
    · exact hz.al h9
  have hlt : ∀ j, j < 292 → ad j < s.heap.size := fun j hj => (hP j _ (ft_get hj)).lt
  refine ⟨(ad, s.heap.size), ⟨by show args = (Value.ref (ad 253) :: av).toArray; rw [had]; exact hargs, hP, hE.narrow hsub, hD.weaken (fun _ _ _ _ => trivial), Nat.le_refl _⟩, fun o t hq => ?_, fun E t hx => ?_, hsub⟩
  · obtain ⟨⟨z, u, e1, e2, e3, e5⟩, e4⟩ := hq
    exact ⟨⟨z, (σ.1, σ.2.1, u.2.1, u.2.2), e1, by rw [← e2], va_up ad 261 u.1, (va_up_ne _ _ (by decide)).trans had, e5, ft_upD_261 hD hlt e3 hz⟩, ft_F_w e4 hsub⟩
  · obtain ⟨u, -, ⟨e2, e3, e5⟩, e4⟩ := hx
    exact ⟨(σ.1, σ.2.1, u.2.1, u.2.2), trivial, ⟨by rw [← e2], va_up ad 261 u.1, (va_up_ne _ _ (by decide)).trans had, e5, ft_upD_261 hD hlt e3 hz⟩, ft_F_w e4 hsub⟩
